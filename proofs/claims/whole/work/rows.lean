section
-- ===== PART A: goes FIRST, ahead of the names: the tables' words, and 'selects' of the private methods out of them =====
/-- a private method of a class that the tables say can be made, by its rows of tables_1 -/
def lw_okq (q : MethodName × Nat) : Prop := (q.1.cls ≠ "java/lang/invoke/MethodHandle" ∧ q.1.cls ≠ "java/lang/invoke/VarHandle") ∧ Cond.instantiable q.1.cls q.2 ∈ tables_1 ∧ Cond.privateMethod q.1 ∈ tables_1 ∧ Cond.instanceMethod q.1 ∈ tables_1
theorem lw_p0 : lw_okq (⟨"RaffleArmy$Army", "clear", "()V"⟩, 19) := ⟨⟨by decide +kernel, by decide +kernel⟩, List.mem_of_getElem? (i := 224) (by decide +kernel), List.mem_of_getElem? (i := 444) (by decide +kernel), List.mem_of_getElem? (i := 445) (by decide +kernel)⟩
theorem lw_p1 : lw_okq (⟨"RaffleArmy$Tape", "signAt", "(I)C"⟩, 10) := ⟨⟨by decide +kernel, by decide +kernel⟩, List.mem_of_getElem? (i := 29) (by decide +kernel), List.mem_of_getElem? (i := 461) (by decide +kernel), List.mem_of_getElem? (i := 462) (by decide +kernel)⟩
theorem lw_p2 : lw_okq (⟨"RaffleArmy$Army", "readLine", "(LRaffleArmy$Tape;)Z"⟩, 19) := ⟨⟨by decide +kernel, by decide +kernel⟩, List.mem_of_getElem? (i := 224) (by decide +kernel), List.mem_of_getElem? (i := 473) (by decide +kernel), List.mem_of_getElem? (i := 474) (by decide +kernel)⟩
theorem lw_p3 : lw_okq (⟨"RaffleArmy$Army", "readPost", "(LRaffleArmy$Tape;)Z"⟩, 19) := ⟨⟨by decide +kernel, by decide +kernel⟩, List.mem_of_getElem? (i := 224) (by decide +kernel), List.mem_of_getElem? (i := 479) (by decide +kernel), List.mem_of_getElem? (i := 480) (by decide +kernel)⟩
theorem lw_p4 : lw_okq (⟨"RaffleArmy$Army", "takeNewName", "(LRaffleArmy$Tape;)Z"⟩, 19) := ⟨⟨by decide +kernel, by decide +kernel⟩, List.mem_of_getElem? (i := 224) (by decide +kernel), List.mem_of_getElem? (i := 488) (by decide +kernel), List.mem_of_getElem? (i := 489) (by decide +kernel)⟩
theorem lw_p5 : lw_okq (⟨"RaffleArmy$Army", "readUnder", "(LRaffleArmy$Tape;)Z"⟩, 19) := ⟨⟨by decide +kernel, by decide +kernel⟩, List.mem_of_getElem? (i := 224) (by decide +kernel), List.mem_of_getElem? (i := 528) (by decide +kernel), List.mem_of_getElem? (i := 529) (by decide +kernel)⟩
theorem lw_p6 : lw_okq (⟨"RaffleArmy$Army", "readMan", "(LRaffleArmy$Tape;)Z"⟩, 19) := ⟨⟨by decide +kernel, by decide +kernel⟩, List.mem_of_getElem? (i := 224) (by decide +kernel), List.mem_of_getElem? (i := 542) (by decide +kernel), List.mem_of_getElem? (i := 543) (by decide +kernel)⟩
theorem lw_p7 : lw_okq (⟨"RaffleArmy$Laws", "readTests", "(LRaffleArmy$Tape;II)Z"⟩, 6) := ⟨⟨by decide +kernel, by decide +kernel⟩, List.mem_of_getElem? (i := 230) (by decide +kernel), List.mem_of_getElem? (i := 557) (by decide +kernel), List.mem_of_getElem? (i := 558) (by decide +kernel)⟩
theorem lw_p8 : lw_okq (⟨"RaffleArmy$Laws", "readTest", "(LRaffleArmy$Tape;II)Z"⟩, 6) := ⟨⟨by decide +kernel, by decide +kernel⟩, List.mem_of_getElem? (i := 230) (by decide +kernel), List.mem_of_getElem? (i := 561) (by decide +kernel), List.mem_of_getElem? (i := 562) (by decide +kernel)⟩
theorem lw_p9 : lw_okq (⟨"RaffleArmy$Laws", "readSum", "(LRaffleArmy$Tape;II)Z"⟩, 6) := ⟨⟨by decide +kernel, by decide +kernel⟩, List.mem_of_getElem? (i := 230) (by decide +kernel), List.mem_of_getElem? (i := 565) (by decide +kernel), List.mem_of_getElem? (i := 566) (by decide +kernel)⟩
theorem lw_p10 : lw_okq (⟨"RaffleArmy$Laws", "readProduct", "(LRaffleArmy$Tape;II)Z"⟩, 6) := ⟨⟨by decide +kernel, by decide +kernel⟩, List.mem_of_getElem? (i := 230) (by decide +kernel), List.mem_of_getElem? (i := 569) (by decide +kernel), List.mem_of_getElem? (i := 570) (by decide +kernel)⟩
theorem lw_p11 : lw_okq (⟨"RaffleArmy$Laws", "readPart", "(LRaffleArmy$Tape;II)Z"⟩, 6) := ⟨⟨by decide +kernel, by decide +kernel⟩, List.mem_of_getElem? (i := 230) (by decide +kernel), List.mem_of_getElem? (i := 573) (by decide +kernel), List.mem_of_getElem? (i := 574) (by decide +kernel)⟩
theorem lw_p12 : lw_okq (⟨"RaffleArmy$Laws", "add", "(I)V"⟩, 6) := ⟨⟨by decide +kernel, by decide +kernel⟩, List.mem_of_getElem? (i := 230) (by decide +kernel), List.mem_of_getElem? (i := 582) (by decide +kernel), List.mem_of_getElem? (i := 583) (by decide +kernel)⟩
theorem lw_p13 : lw_okq (⟨"RaffleArmy$Army", "readOnce", "(LRaffleArmy$Tape;LRaffleArmy$Word;)Z"⟩, 19) := ⟨⟨by decide +kernel, by decide +kernel⟩, List.mem_of_getElem? (i := 224) (by decide +kernel), List.mem_of_getElem? (i := 592) (by decide +kernel), List.mem_of_getElem? (i := 593) (by decide +kernel)⟩
theorem lw_p14 : lw_okq (⟨"RaffleArmy$Army", "readFront", "(LRaffleArmy$Tape;)Z"⟩, 19) := ⟨⟨by decide +kernel, by decide +kernel⟩, List.mem_of_getElem? (i := 224) (by decide +kernel), List.mem_of_getElem? (i := 598) (by decide +kernel), List.mem_of_getElem? (i := 599) (by decide +kernel)⟩
theorem lw_p15 : lw_okq (⟨"RaffleArmy$Army", "fillTables", "()V"⟩, 19) := ⟨⟨by decide +kernel, by decide +kernel⟩, List.mem_of_getElem? (i := 224) (by decide +kernel), List.mem_of_getElem? (i := 608) (by decide +kernel), List.mem_of_getElem? (i := 609) (by decide +kernel)⟩
def lw_privs_1 : List (MethodName × Nat) := [(⟨"RaffleArmy$Army", "clear", "()V"⟩, 19), (⟨"RaffleArmy$Tape", "signAt", "(I)C"⟩, 10), (⟨"RaffleArmy$Army", "readLine", "(LRaffleArmy$Tape;)Z"⟩, 19), (⟨"RaffleArmy$Army", "readPost", "(LRaffleArmy$Tape;)Z"⟩, 19), (⟨"RaffleArmy$Army", "takeNewName", "(LRaffleArmy$Tape;)Z"⟩, 19), (⟨"RaffleArmy$Army", "readUnder", "(LRaffleArmy$Tape;)Z"⟩, 19), (⟨"RaffleArmy$Army", "readMan", "(LRaffleArmy$Tape;)Z"⟩, 19), (⟨"RaffleArmy$Laws", "readTests", "(LRaffleArmy$Tape;II)Z"⟩, 6), (⟨"RaffleArmy$Laws", "readTest", "(LRaffleArmy$Tape;II)Z"⟩, 6), (⟨"RaffleArmy$Laws", "readSum", "(LRaffleArmy$Tape;II)Z"⟩, 6), (⟨"RaffleArmy$Laws", "readProduct", "(LRaffleArmy$Tape;II)Z"⟩, 6), (⟨"RaffleArmy$Laws", "readPart", "(LRaffleArmy$Tape;II)Z"⟩, 6), (⟨"RaffleArmy$Laws", "add", "(I)V"⟩, 6), (⟨"RaffleArmy$Army", "readOnce", "(LRaffleArmy$Tape;LRaffleArmy$Word;)Z"⟩, 19), (⟨"RaffleArmy$Army", "readFront", "(LRaffleArmy$Tape;)Z"⟩, 19), (⟨"RaffleArmy$Army", "fillTables", "()V"⟩, 19)]
theorem lw_r1 : ∀ q ∈ lw_privs_1, lw_okq q := List.forall_mem_cons.mpr ⟨lw_p0, List.forall_mem_cons.mpr ⟨lw_p1, List.forall_mem_cons.mpr ⟨lw_p2, List.forall_mem_cons.mpr ⟨lw_p3, List.forall_mem_cons.mpr ⟨lw_p4, List.forall_mem_cons.mpr ⟨lw_p5, List.forall_mem_cons.mpr ⟨lw_p6, List.forall_mem_cons.mpr ⟨lw_p7, List.forall_mem_cons.mpr ⟨lw_p8, List.forall_mem_cons.mpr ⟨lw_p9, List.forall_mem_cons.mpr ⟨lw_p10, List.forall_mem_cons.mpr ⟨lw_p11, List.forall_mem_cons.mpr ⟨lw_p12, List.forall_mem_cons.mpr ⟨lw_p13, List.forall_mem_cons.mpr ⟨lw_p14, List.forall_mem_cons.mpr ⟨lw_p15, fun _ h => absurd h List.not_mem_nil⟩⟩⟩⟩⟩⟩⟩⟩⟩⟩⟩⟩⟩⟩⟩⟩
theorem lw_p16 : lw_okq (⟨"RaffleArmy$Army", "lawOfSkill", "(II)I"⟩, 19) := ⟨⟨by decide +kernel, by decide +kernel⟩, List.mem_of_getElem? (i := 224) (by decide +kernel), List.mem_of_getElem? (i := 612) (by decide +kernel), List.mem_of_getElem? (i := 613) (by decide +kernel)⟩
theorem lw_p17 : lw_okq (⟨"RaffleArmy$Army", "lawOf", "(III)I"⟩, 19) := ⟨⟨by decide +kernel, by decide +kernel⟩, List.mem_of_getElem? (i := 224) (by decide +kernel), List.mem_of_getElem? (i := 621) (by decide +kernel), List.mem_of_getElem? (i := 622) (by decide +kernel)⟩
theorem lw_p18 : lw_okq (⟨"RaffleArmy$Army", "lawOfWorth", "(II)I"⟩, 19) := ⟨⟨by decide +kernel, by decide +kernel⟩, List.mem_of_getElem? (i := 224) (by decide +kernel), List.mem_of_getElem? (i := 642) (by decide +kernel), List.mem_of_getElem? (i := 643) (by decide +kernel)⟩
theorem lw_p19 : lw_okq (⟨"RaffleArmy$War", "readLine", "(LRaffleArmy$Tape;LRaffleArmy$Army;)Z"⟩, 5) := ⟨⟨by decide +kernel, by decide +kernel⟩, List.mem_of_getElem? (i := 339) (by decide +kernel), List.mem_of_getElem? (i := 663) (by decide +kernel), List.mem_of_getElem? (i := 664) (by decide +kernel)⟩
theorem lw_p20 : lw_okq (⟨"RaffleArmy$War", "readRest", "(LRaffleArmy$Tape;LRaffleArmy$Army;I)Z"⟩, 5) := ⟨⟨by decide +kernel, by decide +kernel⟩, List.mem_of_getElem? (i := 339) (by decide +kernel), List.mem_of_getElem? (i := 671) (by decide +kernel), List.mem_of_getElem? (i := 672) (by decide +kernel)⟩
theorem lw_p21 : lw_okq (⟨"RaffleArmy$War", "readSell", "(LRaffleArmy$Tape;LRaffleArmy$Army;)Z"⟩, 5) := ⟨⟨by decide +kernel, by decide +kernel⟩, List.mem_of_getElem? (i := 339) (by decide +kernel), List.mem_of_getElem? (i := 675) (by decide +kernel), List.mem_of_getElem? (i := 676) (by decide +kernel)⟩
theorem lw_p22 : lw_okq (⟨"RaffleArmy", "remember", "()V"⟩, 18) := ⟨⟨by decide +kernel, by decide +kernel⟩, List.mem_of_getElem? (i := 21) (by decide +kernel), List.mem_of_getElem? (i := 743) (by decide +kernel), List.mem_of_getElem? (i := 744) (by decide +kernel)⟩
theorem lw_p23 : lw_okq (⟨"RaffleArmy$War", "runLine", "(ILRaffleArmy$Army;LRaffleArmy$State;LRaffleArmy$Raffle;)Z"⟩, 5) := ⟨⟨by decide +kernel, by decide +kernel⟩, List.mem_of_getElem? (i := 339) (by decide +kernel), List.mem_of_getElem? (i := 829) (by decide +kernel), List.mem_of_getElem? (i := 830) (by decide +kernel)⟩
theorem lw_p24 : lw_okq (⟨"RaffleArmy$Ways", "place", "(LRaffleArmy$Army;III)V"⟩, 11) := ⟨⟨by decide +kernel, by decide +kernel⟩, List.mem_of_getElem? (i := 141) (by decide +kernel), List.mem_of_getElem? (i := 853) (by decide +kernel), List.mem_of_getElem? (i := 854) (by decide +kernel)⟩
theorem lw_p25 : lw_okq (⟨"RaffleArmy$Ways", "settle", "(LRaffleArmy$Army;)V"⟩, 11) := ⟨⟨by decide +kernel, by decide +kernel⟩, List.mem_of_getElem? (i := 141) (by decide +kernel), List.mem_of_getElem? (i := 857) (by decide +kernel), List.mem_of_getElem? (i := 858) (by decide +kernel)⟩
theorem lw_p26 : lw_okq (⟨"RaffleArmy$Ways", "spell", "(II)V"⟩, 11) := ⟨⟨by decide +kernel, by decide +kernel⟩, List.mem_of_getElem? (i := 141) (by decide +kernel), List.mem_of_getElem? (i := 889) (by decide +kernel), List.mem_of_getElem? (i := 890) (by decide +kernel)⟩
theorem lw_p27 : lw_okq (⟨"RaffleArmy$Ways", "reached", "(LRaffleArmy$Army;II)J"⟩, 11) := ⟨⟨by decide +kernel, by decide +kernel⟩, List.mem_of_getElem? (i := 141) (by decide +kernel), List.mem_of_getElem? (i := 893) (by decide +kernel), List.mem_of_getElem? (i := 894) (by decide +kernel)⟩
theorem lw_p28 : lw_okq (⟨"RaffleArmy$Trade", "swapRing", "(LRaffleArmy$Army;LRaffleArmy$State;II)I"⟩, 5) := ⟨⟨by decide +kernel, by decide +kernel⟩, List.mem_of_getElem? (i := 186) (by decide +kernel), List.mem_of_getElem? (i := 911) (by decide +kernel), List.mem_of_getElem? (i := 912) (by decide +kernel)⟩
theorem lw_p29 : lw_okq (⟨"RaffleArmy", "canPool", "(I)Z"⟩, 18) := ⟨⟨by decide +kernel, by decide +kernel⟩, List.mem_of_getElem? (i := 21) (by decide +kernel), List.mem_of_getElem? (i := 931) (by decide +kernel), List.mem_of_getElem? (i := 932) (by decide +kernel)⟩
theorem lw_p30 : lw_okq (⟨"RaffleArmy", "canWeigh", "(II)Z"⟩, 18) := ⟨⟨by decide +kernel, by decide +kernel⟩, List.mem_of_getElem? (i := 21) (by decide +kernel), List.mem_of_getElem? (i := 969) (by decide +kernel), List.mem_of_getElem? (i := 970) (by decide +kernel)⟩
theorem lw_p31 : lw_okq (⟨"RaffleArmy", "chance", "(III)I"⟩, 18) := ⟨⟨by decide +kernel, by decide +kernel⟩, List.mem_of_getElem? (i := 21) (by decide +kernel), List.mem_of_getElem? (i := 978) (by decide +kernel), List.mem_of_getElem? (i := 979) (by decide +kernel)⟩
def lw_privs_2 : List (MethodName × Nat) := [(⟨"RaffleArmy$Army", "lawOfSkill", "(II)I"⟩, 19), (⟨"RaffleArmy$Army", "lawOf", "(III)I"⟩, 19), (⟨"RaffleArmy$Army", "lawOfWorth", "(II)I"⟩, 19), (⟨"RaffleArmy$War", "readLine", "(LRaffleArmy$Tape;LRaffleArmy$Army;)Z"⟩, 5), (⟨"RaffleArmy$War", "readRest", "(LRaffleArmy$Tape;LRaffleArmy$Army;I)Z"⟩, 5), (⟨"RaffleArmy$War", "readSell", "(LRaffleArmy$Tape;LRaffleArmy$Army;)Z"⟩, 5), (⟨"RaffleArmy", "remember", "()V"⟩, 18), (⟨"RaffleArmy$War", "runLine", "(ILRaffleArmy$Army;LRaffleArmy$State;LRaffleArmy$Raffle;)Z"⟩, 5), (⟨"RaffleArmy$Ways", "place", "(LRaffleArmy$Army;III)V"⟩, 11), (⟨"RaffleArmy$Ways", "settle", "(LRaffleArmy$Army;)V"⟩, 11), (⟨"RaffleArmy$Ways", "spell", "(II)V"⟩, 11), (⟨"RaffleArmy$Ways", "reached", "(LRaffleArmy$Army;II)J"⟩, 11), (⟨"RaffleArmy$Trade", "swapRing", "(LRaffleArmy$Army;LRaffleArmy$State;II)I"⟩, 5), (⟨"RaffleArmy", "canPool", "(I)Z"⟩, 18), (⟨"RaffleArmy", "canWeigh", "(II)Z"⟩, 18), (⟨"RaffleArmy", "chance", "(III)I"⟩, 18)]
theorem lw_r2 : ∀ q ∈ lw_privs_2, lw_okq q := List.forall_mem_cons.mpr ⟨lw_p16, List.forall_mem_cons.mpr ⟨lw_p17, List.forall_mem_cons.mpr ⟨lw_p18, List.forall_mem_cons.mpr ⟨lw_p19, List.forall_mem_cons.mpr ⟨lw_p20, List.forall_mem_cons.mpr ⟨lw_p21, List.forall_mem_cons.mpr ⟨lw_p22, List.forall_mem_cons.mpr ⟨lw_p23, List.forall_mem_cons.mpr ⟨lw_p24, List.forall_mem_cons.mpr ⟨lw_p25, List.forall_mem_cons.mpr ⟨lw_p26, List.forall_mem_cons.mpr ⟨lw_p27, List.forall_mem_cons.mpr ⟨lw_p28, List.forall_mem_cons.mpr ⟨lw_p29, List.forall_mem_cons.mpr ⟨lw_p30, List.forall_mem_cons.mpr ⟨lw_p31, fun _ h => absurd h List.not_mem_nil⟩⟩⟩⟩⟩⟩⟩⟩⟩⟩⟩⟩⟩⟩⟩⟩
theorem lw_p32 : lw_okq (⟨"RaffleArmy", "rowsSeen", "()I"⟩, 18) := ⟨⟨by decide +kernel, by decide +kernel⟩, List.mem_of_getElem? (i := 21) (by decide +kernel), List.mem_of_getElem? (i := 1000) (by decide +kernel), List.mem_of_getElem? (i := 1001) (by decide +kernel)⟩
theorem lw_p33 : lw_okq (⟨"RaffleArmy", "fillDelays", "(I)V"⟩, 18) := ⟨⟨by decide +kernel, by decide +kernel⟩, List.mem_of_getElem? (i := 21) (by decide +kernel), List.mem_of_getElem? (i := 1010) (by decide +kernel), List.mem_of_getElem? (i := 1011) (by decide +kernel)⟩
theorem lw_p34 : lw_okq (⟨"RaffleArmy", "firstDelaying", "(I)I"⟩, 18) := ⟨⟨by decide +kernel, by decide +kernel⟩, List.mem_of_getElem? (i := 21) (by decide +kernel), List.mem_of_getElem? (i := 1014) (by decide +kernel), List.mem_of_getElem? (i := 1015) (by decide +kernel)⟩
theorem lw_p35 : lw_okq (⟨"java/lang/Throwable", "fillInStackTrace", "(I)Ljava/lang/Throwable;"⟩, 6) := ⟨⟨by decide +kernel, by decide +kernel⟩, List.mem_of_getElem? (i := 1084) (by decide +kernel), List.mem_of_getElem? (i := 1082) (by decide +kernel), List.mem_of_getElem? (i := 1083) (by decide +kernel)⟩
theorem lw_p36 : lw_okq (⟨"RaffleArmyModel", "lay", "(J)V"⟩, 44) := ⟨⟨by decide +kernel, by decide +kernel⟩, List.mem_of_getElem? (i := 1122) (by decide +kernel), List.mem_of_getElem? (i := 1120) (by decide +kernel), List.mem_of_getElem? (i := 1121) (by decide +kernel)⟩
theorem lw_p37 : lw_okq (⟨"RaffleArmyModel", "standsAsAlways", "(I)V"⟩, 44) := ⟨⟨by decide +kernel, by decide +kernel⟩, List.mem_of_getElem? (i := 1122) (by decide +kernel), List.mem_of_getElem? (i := 1166) (by decide +kernel), List.mem_of_getElem? (i := 1167) (by decide +kernel)⟩
theorem lw_p38 : lw_okq (⟨"RaffleArmyModel", "begins", "()V"⟩, 44) := ⟨⟨by decide +kernel, by decide +kernel⟩, List.mem_of_getElem? (i := 1122) (by decide +kernel), List.mem_of_getElem? (i := 1170) (by decide +kernel), List.mem_of_getElem? (i := 1171) (by decide +kernel)⟩
theorem lw_p39 : lw_okq (⟨"RaffleArmyModel", "starts", "(I)V"⟩, 44) := ⟨⟨by decide +kernel, by decide +kernel⟩, List.mem_of_getElem? (i := 1122) (by decide +kernel), List.mem_of_getElem? (i := 1174) (by decide +kernel), List.mem_of_getElem? (i := 1175) (by decide +kernel)⟩
theorem lw_p40 : lw_okq (⟨"RaffleArmyModel", "posts", "()I"⟩, 44) := ⟨⟨by decide +kernel, by decide +kernel⟩, List.mem_of_getElem? (i := 1122) (by decide +kernel), List.mem_of_getElem? (i := 1178) (by decide +kernel), List.mem_of_getElem? (i := 1179) (by decide +kernel)⟩
theorem lw_p41 : lw_okq (⟨"RaffleArmyModel", "men", "()I"⟩, 44) := ⟨⟨by decide +kernel, by decide +kernel⟩, List.mem_of_getElem? (i := 1122) (by decide +kernel), List.mem_of_getElem? (i := 1182) (by decide +kernel), List.mem_of_getElem? (i := 1183) (by decide +kernel)⟩
theorem lw_p42 : lw_okq (⟨"RaffleArmyModel", "manOf", "(II)I"⟩, 44) := ⟨⟨by decide +kernel, by decide +kernel⟩, List.mem_of_getElem? (i := 1122) (by decide +kernel), List.mem_of_getElem? (i := 1186) (by decide +kernel), List.mem_of_getElem? (i := 1187) (by decide +kernel)⟩
theorem lw_p43 : lw_okq (⟨"RaffleArmyModel", "cutAll", "()V"⟩, 44) := ⟨⟨by decide +kernel, by decide +kernel⟩, List.mem_of_getElem? (i := 1122) (by decide +kernel), List.mem_of_getElem? (i := 1328) (by decide +kernel), List.mem_of_getElem? (i := 1329) (by decide +kernel)⟩
theorem lw_p44 : lw_okq (⟨"RaffleArmyModel", "isWord", "(I)Z"⟩, 44) := ⟨⟨by decide +kernel, by decide +kernel⟩, List.mem_of_getElem? (i := 1122) (by decide +kernel), List.mem_of_getElem? (i := 1347) (by decide +kernel), List.mem_of_getElem? (i := 1348) (by decide +kernel)⟩
theorem lw_p45 : lw_okq (⟨"RaffleArmyModel", "readPost", "()V"⟩, 44) := ⟨⟨by decide +kernel, by decide +kernel⟩, List.mem_of_getElem? (i := 1122) (by decide +kernel), List.mem_of_getElem? (i := 1351) (by decide +kernel), List.mem_of_getElem? (i := 1352) (by decide +kernel)⟩
theorem lw_p46 : lw_okq (⟨"RaffleArmyModel", "wrong", "(I)V"⟩, 44) := ⟨⟨by decide +kernel, by decide +kernel⟩, List.mem_of_getElem? (i := 1122) (by decide +kernel), List.mem_of_getElem? (i := 1355) (by decide +kernel), List.mem_of_getElem? (i := 1356) (by decide +kernel)⟩
theorem lw_p47 : lw_okq (⟨"RaffleArmyModel", "readName", "(I)V"⟩, 44) := ⟨⟨by decide +kernel, by decide +kernel⟩, List.mem_of_getElem? (i := 1122) (by decide +kernel), List.mem_of_getElem? (i := 1359) (by decide +kernel), List.mem_of_getElem? (i := 1360) (by decide +kernel)⟩
def lw_privs_3 : List (MethodName × Nat) := [(⟨"RaffleArmy", "rowsSeen", "()I"⟩, 18), (⟨"RaffleArmy", "fillDelays", "(I)V"⟩, 18), (⟨"RaffleArmy", "firstDelaying", "(I)I"⟩, 18), (⟨"java/lang/Throwable", "fillInStackTrace", "(I)Ljava/lang/Throwable;"⟩, 6), (⟨"RaffleArmyModel", "lay", "(J)V"⟩, 44), (⟨"RaffleArmyModel", "standsAsAlways", "(I)V"⟩, 44), (⟨"RaffleArmyModel", "begins", "()V"⟩, 44), (⟨"RaffleArmyModel", "starts", "(I)V"⟩, 44), (⟨"RaffleArmyModel", "posts", "()I"⟩, 44), (⟨"RaffleArmyModel", "men", "()I"⟩, 44), (⟨"RaffleArmyModel", "manOf", "(II)I"⟩, 44), (⟨"RaffleArmyModel", "cutAll", "()V"⟩, 44), (⟨"RaffleArmyModel", "isWord", "(I)Z"⟩, 44), (⟨"RaffleArmyModel", "readPost", "()V"⟩, 44), (⟨"RaffleArmyModel", "wrong", "(I)V"⟩, 44), (⟨"RaffleArmyModel", "readName", "(I)V"⟩, 44)]
theorem lw_r3 : ∀ q ∈ lw_privs_3, lw_okq q := List.forall_mem_cons.mpr ⟨lw_p32, List.forall_mem_cons.mpr ⟨lw_p33, List.forall_mem_cons.mpr ⟨lw_p34, List.forall_mem_cons.mpr ⟨lw_p35, List.forall_mem_cons.mpr ⟨lw_p36, List.forall_mem_cons.mpr ⟨lw_p37, List.forall_mem_cons.mpr ⟨lw_p38, List.forall_mem_cons.mpr ⟨lw_p39, List.forall_mem_cons.mpr ⟨lw_p40, List.forall_mem_cons.mpr ⟨lw_p41, List.forall_mem_cons.mpr ⟨lw_p42, List.forall_mem_cons.mpr ⟨lw_p43, List.forall_mem_cons.mpr ⟨lw_p44, List.forall_mem_cons.mpr ⟨lw_p45, List.forall_mem_cons.mpr ⟨lw_p46, List.forall_mem_cons.mpr ⟨lw_p47, fun _ h => absurd h List.not_mem_nil⟩⟩⟩⟩⟩⟩⟩⟩⟩⟩⟩⟩⟩⟩⟩⟩
theorem lw_p48 : lw_okq (⟨"RaffleArmyModel", "isName", "()Z"⟩, 44) := ⟨⟨by decide +kernel, by decide +kernel⟩, List.mem_of_getElem? (i := 1122) (by decide +kernel), List.mem_of_getElem? (i := 1363) (by decide +kernel), List.mem_of_getElem? (i := 1364) (by decide +kernel)⟩
theorem lw_p49 : lw_okq (⟨"RaffleArmyModel", "wordHere", "(II)I"⟩, 44) := ⟨⟨by decide +kernel, by decide +kernel⟩, List.mem_of_getElem? (i := 1122) (by decide +kernel), List.mem_of_getElem? (i := 1367) (by decide +kernel), List.mem_of_getElem? (i := 1368) (by decide +kernel)⟩
theorem lw_p50 : lw_okq (⟨"RaffleArmyModel", "find", "(Z)I"⟩, 44) := ⟨⟨by decide +kernel, by decide +kernel⟩, List.mem_of_getElem? (i := 1122) (by decide +kernel), List.mem_of_getElem? (i := 1371) (by decide +kernel), List.mem_of_getElem? (i := 1372) (by decide +kernel)⟩
theorem lw_p51 : lw_okq (⟨"RaffleArmyModel", "takeOne", "(II)I"⟩, 44) := ⟨⟨by decide +kernel, by decide +kernel⟩, List.mem_of_getElem? (i := 1122) (by decide +kernel), List.mem_of_getElem? (i := 1375) (by decide +kernel), List.mem_of_getElem? (i := 1376) (by decide +kernel)⟩
theorem lw_p52 : lw_okq (⟨"RaffleArmyModel", "takeAfter", "(III)I"⟩, 44) := ⟨⟨by decide +kernel, by decide +kernel⟩, List.mem_of_getElem? (i := 1122) (by decide +kernel), List.mem_of_getElem? (i := 1379) (by decide +kernel), List.mem_of_getElem? (i := 1380) (by decide +kernel)⟩
theorem lw_p53 : lw_okq (⟨"RaffleArmyModel", "takeWord", "(I)V"⟩, 44) := ⟨⟨by decide +kernel, by decide +kernel⟩, List.mem_of_getElem? (i := 1122) (by decide +kernel), List.mem_of_getElem? (i := 1383) (by decide +kernel), List.mem_of_getElem? (i := 1384) (by decide +kernel)⟩
theorem lw_p54 : lw_okq (⟨"RaffleArmyModel", "hasWord", "(I)Z"⟩, 44) := ⟨⟨by decide +kernel, by decide +kernel⟩, List.mem_of_getElem? (i := 1122) (by decide +kernel), List.mem_of_getElem? (i := 1387) (by decide +kernel), List.mem_of_getElem? (i := 1388) (by decide +kernel)⟩
theorem lw_p55 : lw_okq (⟨"RaffleArmyModel", "takeNumber", "(II)I"⟩, 44) := ⟨⟨by decide +kernel, by decide +kernel⟩, List.mem_of_getElem? (i := 1122) (by decide +kernel), List.mem_of_getElem? (i := 1391) (by decide +kernel), List.mem_of_getElem? (i := 1392) (by decide +kernel)⟩
theorem lw_p56 : lw_okq (⟨"RaffleArmyModel", "toldHere", "(ZII)I"⟩, 44) := ⟨⟨by decide +kernel, by decide +kernel⟩, List.mem_of_getElem? (i := 1122) (by decide +kernel), List.mem_of_getElem? (i := 1395) (by decide +kernel), List.mem_of_getElem? (i := 1396) (by decide +kernel)⟩
theorem lw_p57 : lw_okq (⟨"RaffleArmyModel", "readMan", "()V"⟩, 44) := ⟨⟨by decide +kernel, by decide +kernel⟩, List.mem_of_getElem? (i := 1122) (by decide +kernel), List.mem_of_getElem? (i := 1402) (by decide +kernel), List.mem_of_getElem? (i := 1403) (by decide +kernel)⟩
theorem lw_p58 : lw_okq (⟨"RaffleArmyModel", "readOnce", "()V"⟩, 44) := ⟨⟨by decide +kernel, by decide +kernel⟩, List.mem_of_getElem? (i := 1122) (by decide +kernel), List.mem_of_getElem? (i := 1406) (by decide +kernel), List.mem_of_getElem? (i := 1407) (by decide +kernel)⟩
theorem lw_p59 : lw_okq (⟨"RaffleArmyModel", "all", "(I)V"⟩, 44) := ⟨⟨by decide +kernel, by decide +kernel⟩, List.mem_of_getElem? (i := 1122) (by decide +kernel), List.mem_of_getElem? (i := 1410) (by decide +kernel), List.mem_of_getElem? (i := 1411) (by decide +kernel)⟩
theorem lw_p60 : lw_okq (⟨"RaffleArmyModel", "test", "(I)V"⟩, 44) := ⟨⟨by decide +kernel, by decide +kernel⟩, List.mem_of_getElem? (i := 1122) (by decide +kernel), List.mem_of_getElem? (i := 1414) (by decide +kernel), List.mem_of_getElem? (i := 1415) (by decide +kernel)⟩
theorem lw_p61 : lw_okq (⟨"RaffleArmyModel", "sums", "(I)V"⟩, 44) := ⟨⟨by decide +kernel, by decide +kernel⟩, List.mem_of_getElem? (i := 1122) (by decide +kernel), List.mem_of_getElem? (i := 1418) (by decide +kernel), List.mem_of_getElem? (i := 1419) (by decide +kernel)⟩
theorem lw_p62 : lw_okq (⟨"RaffleArmyModel", "products", "(I)V"⟩, 44) := ⟨⟨by decide +kernel, by decide +kernel⟩, List.mem_of_getElem? (i := 1122) (by decide +kernel), List.mem_of_getElem? (i := 1422) (by decide +kernel), List.mem_of_getElem? (i := 1423) (by decide +kernel)⟩
theorem lw_p63 : lw_okq (⟨"RaffleArmyModel", "takePart", "(I)V"⟩, 44) := ⟨⟨by decide +kernel, by decide +kernel⟩, List.mem_of_getElem? (i := 1122) (by decide +kernel), List.mem_of_getElem? (i := 1426) (by decide +kernel), List.mem_of_getElem? (i := 1427) (by decide +kernel)⟩
def lw_privs_4 : List (MethodName × Nat) := [(⟨"RaffleArmyModel", "isName", "()Z"⟩, 44), (⟨"RaffleArmyModel", "wordHere", "(II)I"⟩, 44), (⟨"RaffleArmyModel", "find", "(Z)I"⟩, 44), (⟨"RaffleArmyModel", "takeOne", "(II)I"⟩, 44), (⟨"RaffleArmyModel", "takeAfter", "(III)I"⟩, 44), (⟨"RaffleArmyModel", "takeWord", "(I)V"⟩, 44), (⟨"RaffleArmyModel", "hasWord", "(I)Z"⟩, 44), (⟨"RaffleArmyModel", "takeNumber", "(II)I"⟩, 44), (⟨"RaffleArmyModel", "toldHere", "(ZII)I"⟩, 44), (⟨"RaffleArmyModel", "readMan", "()V"⟩, 44), (⟨"RaffleArmyModel", "readOnce", "()V"⟩, 44), (⟨"RaffleArmyModel", "all", "(I)V"⟩, 44), (⟨"RaffleArmyModel", "test", "(I)V"⟩, 44), (⟨"RaffleArmyModel", "sums", "(I)V"⟩, 44), (⟨"RaffleArmyModel", "products", "(I)V"⟩, 44), (⟨"RaffleArmyModel", "takePart", "(I)V"⟩, 44)]
theorem lw_r4 : ∀ q ∈ lw_privs_4, lw_okq q := List.forall_mem_cons.mpr ⟨lw_p48, List.forall_mem_cons.mpr ⟨lw_p49, List.forall_mem_cons.mpr ⟨lw_p50, List.forall_mem_cons.mpr ⟨lw_p51, List.forall_mem_cons.mpr ⟨lw_p52, List.forall_mem_cons.mpr ⟨lw_p53, List.forall_mem_cons.mpr ⟨lw_p54, List.forall_mem_cons.mpr ⟨lw_p55, List.forall_mem_cons.mpr ⟨lw_p56, List.forall_mem_cons.mpr ⟨lw_p57, List.forall_mem_cons.mpr ⟨lw_p58, List.forall_mem_cons.mpr ⟨lw_p59, List.forall_mem_cons.mpr ⟨lw_p60, List.forall_mem_cons.mpr ⟨lw_p61, List.forall_mem_cons.mpr ⟨lw_p62, List.forall_mem_cons.mpr ⟨lw_p63, fun _ h => absurd h List.not_mem_nil⟩⟩⟩⟩⟩⟩⟩⟩⟩⟩⟩⟩⟩⟩⟩⟩
theorem lw_p64 : lw_okq (⟨"RaffleArmyModel", "isSign", "(I)Z"⟩, 44) := ⟨⟨by decide +kernel, by decide +kernel⟩, List.mem_of_getElem? (i := 1122) (by decide +kernel), List.mem_of_getElem? (i := 1430) (by decide +kernel), List.mem_of_getElem? (i := 1431) (by decide +kernel)⟩
theorem lw_p65 : lw_okq (⟨"RaffleArmyModel", "emit", "(II)V"⟩, 44) := ⟨⟨by decide +kernel, by decide +kernel⟩, List.mem_of_getElem? (i := 1122) (by decide +kernel), List.mem_of_getElem? (i := 1434) (by decide +kernel), List.mem_of_getElem? (i := 1435) (by decide +kernel)⟩
theorem lw_p66 : lw_okq (⟨"RaffleArmyModel", "hasSign", "(I)Z"⟩, 44) := ⟨⟨by decide +kernel, by decide +kernel⟩, List.mem_of_getElem? (i := 1122) (by decide +kernel), List.mem_of_getElem? (i := 1438) (by decide +kernel), List.mem_of_getElem? (i := 1439) (by decide +kernel)⟩
theorem lw_p67 : lw_okq (⟨"RaffleArmyModel", "takeSign", "(I)V"⟩, 44) := ⟨⟨by decide +kernel, by decide +kernel⟩, List.mem_of_getElem? (i := 1122) (by decide +kernel), List.mem_of_getElem? (i := 1442) (by decide +kernel), List.mem_of_getElem? (i := 1443) (by decide +kernel)⟩
theorem lw_p68 : lw_okq (⟨"RaffleArmyModel", "readWar", "(II)V"⟩, 44) := ⟨⟨by decide +kernel, by decide +kernel⟩, List.mem_of_getElem? (i := 1122) (by decide +kernel), List.mem_of_getElem? (i := 1450) (by decide +kernel), List.mem_of_getElem? (i := 1451) (by decide +kernel)⟩
theorem lw_p69 : lw_okq (⟨"RaffleArmyModel", "isPost", "(I)Z"⟩, 44) := ⟨⟨by decide +kernel, by decide +kernel⟩, List.mem_of_getElem? (i := 1122) (by decide +kernel), List.mem_of_getElem? (i := 1458) (by decide +kernel), List.mem_of_getElem? (i := 1459) (by decide +kernel)⟩
theorem lw_p70 : lw_okq (⟨"RaffleArmyModel", "laysHeld", "(I)V"⟩, 44) := ⟨⟨by decide +kernel, by decide +kernel⟩, List.mem_of_getElem? (i := 1122) (by decide +kernel), List.mem_of_getElem? (i := 1462) (by decide +kernel), List.mem_of_getElem? (i := 1463) (by decide +kernel)⟩
theorem lw_p71 : lw_okq (⟨"RaffleArmyModel", "laysSkills", "()V"⟩, 44) := ⟨⟨by decide +kernel, by decide +kernel⟩, List.mem_of_getElem? (i := 1122) (by decide +kernel), List.mem_of_getElem? (i := 1466) (by decide +kernel), List.mem_of_getElem? (i := 1467) (by decide +kernel)⟩
theorem lw_p72 : lw_okq (⟨"RaffleArmyModel", "skillOf", "(II)I"⟩, 44) := ⟨⟨by decide +kernel, by decide +kernel⟩, List.mem_of_getElem? (i := 1122) (by decide +kernel), List.mem_of_getElem? (i := 1470) (by decide +kernel), List.mem_of_getElem? (i := 1471) (by decide +kernel)⟩
theorem lw_p73 : lw_okq (⟨"RaffleArmyModel", "laysFacts", "(II)V"⟩, 44) := ⟨⟨by decide +kernel, by decide +kernel⟩, List.mem_of_getElem? (i := 1122) (by decide +kernel), List.mem_of_getElem? (i := 1474) (by decide +kernel), List.mem_of_getElem? (i := 1475) (by decide +kernel)⟩
theorem lw_p74 : lw_okq (⟨"RaffleArmyModel", "postOf", "(II)I"⟩, 44) := ⟨⟨by decide +kernel, by decide +kernel⟩, List.mem_of_getElem? (i := 1122) (by decide +kernel), List.mem_of_getElem? (i := 1478) (by decide +kernel), List.mem_of_getElem? (i := 1479) (by decide +kernel)⟩
theorem lw_p75 : lw_okq (⟨"RaffleArmyModel", "worthAt", "(I)I"⟩, 44) := ⟨⟨by decide +kernel, by decide +kernel⟩, List.mem_of_getElem? (i := 1122) (by decide +kernel), List.mem_of_getElem? (i := 1482) (by decide +kernel), List.mem_of_getElem? (i := 1483) (by decide +kernel)⟩
theorem lw_p76 : lw_okq (⟨"RaffleArmyModel", "doesObey", "(I)Z"⟩, 44) := ⟨⟨by decide +kernel, by decide +kernel⟩, List.mem_of_getElem? (i := 1122) (by decide +kernel), List.mem_of_getElem? (i := 1489) (by decide +kernel), List.mem_of_getElem? (i := 1490) (by decide +kernel)⟩
theorem lw_p77 : lw_okq (⟨"RaffleArmyModel", "isMan", "(I)Z"⟩, 44) := ⟨⟨by decide +kernel, by decide +kernel⟩, List.mem_of_getElem? (i := 1122) (by decide +kernel), List.mem_of_getElem? (i := 1497) (by decide +kernel), List.mem_of_getElem? (i := 1498) (by decide +kernel)⟩
theorem lw_p78 : lw_okq (⟨"RaffleArmyModel", "postHeldBy", "(II)I"⟩, 44) := ⟨⟨by decide +kernel, by decide +kernel⟩, List.mem_of_getElem? (i := 1122) (by decide +kernel), List.mem_of_getElem? (i := 1501) (by decide +kernel), List.mem_of_getElem? (i := 1502) (by decide +kernel)⟩
theorem lw_p79 : lw_okq (⟨"RaffleArmyModel", "oursOf", "(I)I"⟩, 44) := ⟨⟨by decide +kernel, by decide +kernel⟩, List.mem_of_getElem? (i := 1122) (by decide +kernel), List.mem_of_getElem? (i := 1513) (by decide +kernel), List.mem_of_getElem? (i := 1514) (by decide +kernel)⟩
def lw_privs_5 : List (MethodName × Nat) := [(⟨"RaffleArmyModel", "isSign", "(I)Z"⟩, 44), (⟨"RaffleArmyModel", "emit", "(II)V"⟩, 44), (⟨"RaffleArmyModel", "hasSign", "(I)Z"⟩, 44), (⟨"RaffleArmyModel", "takeSign", "(I)V"⟩, 44), (⟨"RaffleArmyModel", "readWar", "(II)V"⟩, 44), (⟨"RaffleArmyModel", "isPost", "(I)Z"⟩, 44), (⟨"RaffleArmyModel", "laysHeld", "(I)V"⟩, 44), (⟨"RaffleArmyModel", "laysSkills", "()V"⟩, 44), (⟨"RaffleArmyModel", "skillOf", "(II)I"⟩, 44), (⟨"RaffleArmyModel", "laysFacts", "(II)V"⟩, 44), (⟨"RaffleArmyModel", "postOf", "(II)I"⟩, 44), (⟨"RaffleArmyModel", "worthAt", "(I)I"⟩, 44), (⟨"RaffleArmyModel", "doesObey", "(I)Z"⟩, 44), (⟨"RaffleArmyModel", "isMan", "(I)Z"⟩, 44), (⟨"RaffleArmyModel", "postHeldBy", "(II)I"⟩, 44), (⟨"RaffleArmyModel", "oursOf", "(I)I"⟩, 44)]
theorem lw_r5 : ∀ q ∈ lw_privs_5, lw_okq q := List.forall_mem_cons.mpr ⟨lw_p64, List.forall_mem_cons.mpr ⟨lw_p65, List.forall_mem_cons.mpr ⟨lw_p66, List.forall_mem_cons.mpr ⟨lw_p67, List.forall_mem_cons.mpr ⟨lw_p68, List.forall_mem_cons.mpr ⟨lw_p69, List.forall_mem_cons.mpr ⟨lw_p70, List.forall_mem_cons.mpr ⟨lw_p71, List.forall_mem_cons.mpr ⟨lw_p72, List.forall_mem_cons.mpr ⟨lw_p73, List.forall_mem_cons.mpr ⟨lw_p74, List.forall_mem_cons.mpr ⟨lw_p75, List.forall_mem_cons.mpr ⟨lw_p76, List.forall_mem_cons.mpr ⟨lw_p77, List.forall_mem_cons.mpr ⟨lw_p78, List.forall_mem_cons.mpr ⟨lw_p79, fun _ h => absurd h List.not_mem_nil⟩⟩⟩⟩⟩⟩⟩⟩⟩⟩⟩⟩⟩⟩⟩⟩
theorem lw_p80 : lw_okq (⟨"RaffleArmyModel", "oursNow", "()I"⟩, 44) := ⟨⟨by decide +kernel, by decide +kernel⟩, List.mem_of_getElem? (i := 1122) (by decide +kernel), List.mem_of_getElem? (i := 1517) (by decide +kernel), List.mem_of_getElem? (i := 1518) (by decide +kernel)⟩
theorem lw_p81 : lw_okq (⟨"RaffleArmyModel", "keeps", "()V"⟩, 44) := ⟨⟨by decide +kernel, by decide +kernel⟩, List.mem_of_getElem? (i := 1122) (by decide +kernel), List.mem_of_getElem? (i := 1525) (by decide +kernel), List.mem_of_getElem? (i := 1526) (by decide +kernel)⟩
theorem lw_p82 : lw_okq (⟨"RaffleArmyModel", "copies", "(III)V"⟩, 44) := ⟨⟨by decide +kernel, by decide +kernel⟩, List.mem_of_getElem? (i := 1122) (by decide +kernel), List.mem_of_getElem? (i := 1529) (by decide +kernel), List.mem_of_getElem? (i := 1530) (by decide +kernel)⟩
theorem lw_p83 : lw_okq (⟨"RaffleArmyModel", "draws", "(I)V"⟩, 44) := ⟨⟨by decide +kernel, by decide +kernel⟩, List.mem_of_getElem? (i := 1122) (by decide +kernel), List.mem_of_getElem? (i := 1533) (by decide +kernel), List.mem_of_getElem? (i := 1534) (by decide +kernel)⟩
theorem lw_p84 : lw_okq (⟨"RaffleArmyModel", "drawBelow", "(I)I"⟩, 44) := ⟨⟨by decide +kernel, by decide +kernel⟩, List.mem_of_getElem? (i := 1122) (by decide +kernel), List.mem_of_getElem? (i := 1537) (by decide +kernel), List.mem_of_getElem? (i := 1538) (by decide +kernel)⟩
theorem lw_p85 : lw_okq (⟨"RaffleArmyModel", "maySell", "(IIII)Z"⟩, 44) := ⟨⟨by decide +kernel, by decide +kernel⟩, List.mem_of_getElem? (i := 1122) (by decide +kernel), List.mem_of_getElem? (i := 1549) (by decide +kernel), List.mem_of_getElem? (i := 1550) (by decide +kernel)⟩
theorem lw_p86 : lw_okq (⟨"RaffleArmyModel", "sells", "(IIII)V"⟩, 44) := ⟨⟨by decide +kernel, by decide +kernel⟩, List.mem_of_getElem? (i := 1122) (by decide +kernel), List.mem_of_getElem? (i := 1553) (by decide +kernel), List.mem_of_getElem? (i := 1554) (by decide +kernel)⟩
theorem lw_p87 : lw_okq (⟨"RaffleArmyModel", "isEnd", "(I)Z"⟩, 44) := ⟨⟨by decide +kernel, by decide +kernel⟩, List.mem_of_getElem? (i := 1122) (by decide +kernel), List.mem_of_getElem? (i := 1565) (by decide +kernel), List.mem_of_getElem? (i := 1566) (by decide +kernel)⟩
theorem lw_p88 : lw_okq (⟨"RaffleArmyModel", "cells", "()I"⟩, 44) := ⟨⟨by decide +kernel, by decide +kernel⟩, List.mem_of_getElem? (i := 1122) (by decide +kernel), List.mem_of_getElem? (i := 1569) (by decide +kernel), List.mem_of_getElem? (i := 1570) (by decide +kernel)⟩
theorem lw_p89 : lw_okq (⟨"RaffleArmyModel", "isOver", "(I)Z"⟩, 44) := ⟨⟨by decide +kernel, by decide +kernel⟩, List.mem_of_getElem? (i := 1122) (by decide +kernel), List.mem_of_getElem? (i := 1573) (by decide +kernel), List.mem_of_getElem? (i := 1574) (by decide +kernel)⟩
theorem lw_p90 : lw_okq (⟨"RaffleArmyModel", "passes", "(II)I"⟩, 44) := ⟨⟨by decide +kernel, by decide +kernel⟩, List.mem_of_getElem? (i := 1122) (by decide +kernel), List.mem_of_getElem? (i := 1577) (by decide +kernel), List.mem_of_getElem? (i := 1578) (by decide +kernel)⟩
theorem lw_p91 : lw_okq (⟨"RaffleArmyModel", "goesBy", "(III)I"⟩, 44) := ⟨⟨by decide +kernel, by decide +kernel⟩, List.mem_of_getElem? (i := 1122) (by decide +kernel), List.mem_of_getElem? (i := 1581) (by decide +kernel), List.mem_of_getElem? (i := 1582) (by decide +kernel)⟩
theorem lw_p92 : lw_okq (⟨"RaffleArmyModel", "bounded", "(I)I"⟩, 44) := ⟨⟨by decide +kernel, by decide +kernel⟩, List.mem_of_getElem? (i := 1122) (by decide +kernel), List.mem_of_getElem? (i := 1585) (by decide +kernel), List.mem_of_getElem? (i := 1586) (by decide +kernel)⟩
theorem lw_p93 : lw_okq (⟨"RaffleArmyModel", "does", "(I)Z"⟩, 44) := ⟨⟨by decide +kernel, by decide +kernel⟩, List.mem_of_getElem? (i := 1122) (by decide +kernel), List.mem_of_getElem? (i := 1597) (by decide +kernel), List.mem_of_getElem? (i := 1598) (by decide +kernel)⟩
theorem lw_p94 : lw_okq (⟨"RaffleArmyModel", "goesThroughWays", "()V"⟩, 44) := ⟨⟨by decide +kernel, by decide +kernel⟩, List.mem_of_getElem? (i := 1122) (by decide +kernel), List.mem_of_getElem? (i := 1609) (by decide +kernel), List.mem_of_getElem? (i := 1610) (by decide +kernel)⟩
theorem lw_p95 : lw_okq (⟨"RaffleArmyModel", "gives", "(III)V"⟩, 44) := ⟨⟨by decide +kernel, by decide +kernel⟩, List.mem_of_getElem? (i := 1122) (by decide +kernel), List.mem_of_getElem? (i := 1613) (by decide +kernel), List.mem_of_getElem? (i := 1614) (by decide +kernel)⟩
def lw_privs_6 : List (MethodName × Nat) := [(⟨"RaffleArmyModel", "oursNow", "()I"⟩, 44), (⟨"RaffleArmyModel", "keeps", "()V"⟩, 44), (⟨"RaffleArmyModel", "copies", "(III)V"⟩, 44), (⟨"RaffleArmyModel", "draws", "(I)V"⟩, 44), (⟨"RaffleArmyModel", "drawBelow", "(I)I"⟩, 44), (⟨"RaffleArmyModel", "maySell", "(IIII)Z"⟩, 44), (⟨"RaffleArmyModel", "sells", "(IIII)V"⟩, 44), (⟨"RaffleArmyModel", "isEnd", "(I)Z"⟩, 44), (⟨"RaffleArmyModel", "cells", "()I"⟩, 44), (⟨"RaffleArmyModel", "isOver", "(I)Z"⟩, 44), (⟨"RaffleArmyModel", "passes", "(II)I"⟩, 44), (⟨"RaffleArmyModel", "goesBy", "(III)I"⟩, 44), (⟨"RaffleArmyModel", "bounded", "(I)I"⟩, 44), (⟨"RaffleArmyModel", "does", "(I)Z"⟩, 44), (⟨"RaffleArmyModel", "goesThroughWays", "()V"⟩, 44), (⟨"RaffleArmyModel", "gives", "(III)V"⟩, 44)]
theorem lw_r6 : ∀ q ∈ lw_privs_6, lw_okq q := List.forall_mem_cons.mpr ⟨lw_p80, List.forall_mem_cons.mpr ⟨lw_p81, List.forall_mem_cons.mpr ⟨lw_p82, List.forall_mem_cons.mpr ⟨lw_p83, List.forall_mem_cons.mpr ⟨lw_p84, List.forall_mem_cons.mpr ⟨lw_p85, List.forall_mem_cons.mpr ⟨lw_p86, List.forall_mem_cons.mpr ⟨lw_p87, List.forall_mem_cons.mpr ⟨lw_p88, List.forall_mem_cons.mpr ⟨lw_p89, List.forall_mem_cons.mpr ⟨lw_p90, List.forall_mem_cons.mpr ⟨lw_p91, List.forall_mem_cons.mpr ⟨lw_p92, List.forall_mem_cons.mpr ⟨lw_p93, List.forall_mem_cons.mpr ⟨lw_p94, List.forall_mem_cons.mpr ⟨lw_p95, fun _ h => absurd h List.not_mem_nil⟩⟩⟩⟩⟩⟩⟩⟩⟩⟩⟩⟩⟩⟩⟩⟩
theorem lw_p96 : lw_okq (⟨"RaffleArmyModel", "looks", "()V"⟩, 44) := ⟨⟨by decide +kernel, by decide +kernel⟩, List.mem_of_getElem? (i := 1122) (by decide +kernel), List.mem_of_getElem? (i := 1617) (by decide +kernel), List.mem_of_getElem? (i := 1618) (by decide +kernel)⟩
theorem lw_p97 : lw_okq (⟨"RaffleArmyModel", "fewer", "()I"⟩, 44) := ⟨⟨by decide +kernel, by decide +kernel⟩, List.mem_of_getElem? (i := 1122) (by decide +kernel), List.mem_of_getElem? (i := 1621) (by decide +kernel), List.mem_of_getElem? (i := 1622) (by decide +kernel)⟩
theorem lw_p98 : lw_okq (⟨"RaffleArmyModel", "frontsBy", "(II)J"⟩, 44) := ⟨⟨by decide +kernel, by decide +kernel⟩, List.mem_of_getElem? (i := 1122) (by decide +kernel), List.mem_of_getElem? (i := 1638) (by decide +kernel), List.mem_of_getElem? (i := 1639) (by decide +kernel)⟩
theorem lw_p99 : lw_okq (⟨"RaffleArmyModel", "findSwaps", "()V"⟩, 44) := ⟨⟨by decide +kernel, by decide +kernel⟩, List.mem_of_getElem? (i := 1122) (by decide +kernel), List.mem_of_getElem? (i := 1649) (by decide +kernel), List.mem_of_getElem? (i := 1650) (by decide +kernel)⟩
theorem lw_p100 : lw_okq (⟨"RaffleArmyModel", "findLooks", "(I)V"⟩, 44) := ⟨⟨by decide +kernel, by decide +kernel⟩, List.mem_of_getElem? (i := 1122) (by decide +kernel), List.mem_of_getElem? (i := 1653) (by decide +kernel), List.mem_of_getElem? (i := 1654) (by decide +kernel)⟩
theorem lw_p101 : lw_okq (⟨"RaffleArmyModel", "likes", "(II)I"⟩, 44) := ⟨⟨by decide +kernel, by decide +kernel⟩, List.mem_of_getElem? (i := 1122) (by decide +kernel), List.mem_of_getElem? (i := 1657) (by decide +kernel), List.mem_of_getElem? (i := 1658) (by decide +kernel)⟩
theorem lw_p102 : lw_okq (⟨"RaffleArmyModel", "isInRing", "(I)Z"⟩, 44) := ⟨⟨by decide +kernel, by decide +kernel⟩, List.mem_of_getElem? (i := 1122) (by decide +kernel), List.mem_of_getElem? (i := 1661) (by decide +kernel), List.mem_of_getElem? (i := 1662) (by decide +kernel)⟩
theorem lw_p103 : lw_okq (⟨"RaffleArmyModel", "arePooled", "(I)Z"⟩, 44) := ⟨⟨by decide +kernel, by decide +kernel⟩, List.mem_of_getElem? (i := 1122) (by decide +kernel), List.mem_of_getElem? (i := 1673) (by decide +kernel), List.mem_of_getElem? (i := 1674) (by decide +kernel)⟩
theorem lw_p104 : lw_okq (⟨"RaffleArmyModel", "poolOf", "(I)I"⟩, 44) := ⟨⟨by decide +kernel, by decide +kernel⟩, List.mem_of_getElem? (i := 1122) (by decide +kernel), List.mem_of_getElem? (i := 1677) (by decide +kernel), List.mem_of_getElem? (i := 1678) (by decide +kernel)⟩
theorem lw_p105 : lw_okq (⟨"RaffleArmyModel", "pools", "(III)V"⟩, 44) := ⟨⟨by decide +kernel, by decide +kernel⟩, List.mem_of_getElem? (i := 1122) (by decide +kernel), List.mem_of_getElem? (i := 1681) (by decide +kernel), List.mem_of_getElem? (i := 1682) (by decide +kernel)⟩
theorem lw_p106 : lw_okq (⟨"RaffleArmyModel", "toldOf", "(II)I"⟩, 44) := ⟨⟨by decide +kernel, by decide +kernel⟩, List.mem_of_getElem? (i := 1122) (by decide +kernel), List.mem_of_getElem? (i := 1703) (by decide +kernel), List.mem_of_getElem? (i := 1704) (by decide +kernel)⟩
theorem lw_p107 : lw_okq (⟨"RaffleArmyModel", "fairBy", "(III)I"⟩, 44) := ⟨⟨by decide +kernel, by decide +kernel⟩, List.mem_of_getElem? (i := 1122) (by decide +kernel), List.mem_of_getElem? (i := 1707) (by decide +kernel), List.mem_of_getElem? (i := 1708) (by decide +kernel)⟩
theorem lw_p108 : lw_okq (⟨"RaffleArmyModel", "laysGoes", "()V"⟩, 44) := ⟨⟨by decide +kernel, by decide +kernel⟩, List.mem_of_getElem? (i := 1122) (by decide +kernel), List.mem_of_getElem? (i := 1727) (by decide +kernel), List.mem_of_getElem? (i := 1728) (by decide +kernel)⟩
theorem lw_p109 : lw_okq (⟨"RaffleArmyModel", "rowsFrom", "(III)V"⟩, 44) := ⟨⟨by decide +kernel, by decide +kernel⟩, List.mem_of_getElem? (i := 1122) (by decide +kernel), List.mem_of_getElem? (i := 1731) (by decide +kernel), List.mem_of_getElem? (i := 1732) (by decide +kernel)⟩
theorem lw_p110 : lw_okq (⟨"RaffleArmyModel", "bestOff", "(II)I"⟩, 44) := ⟨⟨by decide +kernel, by decide +kernel⟩, List.mem_of_getElem? (i := 1122) (by decide +kernel), List.mem_of_getElem? (i := 1739) (by decide +kernel), List.mem_of_getElem? (i := 1740) (by decide +kernel)⟩
theorem lw_p111 : lw_okq (⟨"RaffleArmyModel", "offBy", "(III)I"⟩, 44) := ⟨⟨by decide +kernel, by decide +kernel⟩, List.mem_of_getElem? (i := 1122) (by decide +kernel), List.mem_of_getElem? (i := 1743) (by decide +kernel), List.mem_of_getElem? (i := 1744) (by decide +kernel)⟩
def lw_privs_7 : List (MethodName × Nat) := [(⟨"RaffleArmyModel", "looks", "()V"⟩, 44), (⟨"RaffleArmyModel", "fewer", "()I"⟩, 44), (⟨"RaffleArmyModel", "frontsBy", "(II)J"⟩, 44), (⟨"RaffleArmyModel", "findSwaps", "()V"⟩, 44), (⟨"RaffleArmyModel", "findLooks", "(I)V"⟩, 44), (⟨"RaffleArmyModel", "likes", "(II)I"⟩, 44), (⟨"RaffleArmyModel", "isInRing", "(I)Z"⟩, 44), (⟨"RaffleArmyModel", "arePooled", "(I)Z"⟩, 44), (⟨"RaffleArmyModel", "poolOf", "(I)I"⟩, 44), (⟨"RaffleArmyModel", "pools", "(III)V"⟩, 44), (⟨"RaffleArmyModel", "toldOf", "(II)I"⟩, 44), (⟨"RaffleArmyModel", "fairBy", "(III)I"⟩, 44), (⟨"RaffleArmyModel", "laysGoes", "()V"⟩, 44), (⟨"RaffleArmyModel", "rowsFrom", "(III)V"⟩, 44), (⟨"RaffleArmyModel", "bestOff", "(II)I"⟩, 44), (⟨"RaffleArmyModel", "offBy", "(III)I"⟩, 44)]
theorem lw_r7 : ∀ q ∈ lw_privs_7, lw_okq q := List.forall_mem_cons.mpr ⟨lw_p96, List.forall_mem_cons.mpr ⟨lw_p97, List.forall_mem_cons.mpr ⟨lw_p98, List.forall_mem_cons.mpr ⟨lw_p99, List.forall_mem_cons.mpr ⟨lw_p100, List.forall_mem_cons.mpr ⟨lw_p101, List.forall_mem_cons.mpr ⟨lw_p102, List.forall_mem_cons.mpr ⟨lw_p103, List.forall_mem_cons.mpr ⟨lw_p104, List.forall_mem_cons.mpr ⟨lw_p105, List.forall_mem_cons.mpr ⟨lw_p106, List.forall_mem_cons.mpr ⟨lw_p107, List.forall_mem_cons.mpr ⟨lw_p108, List.forall_mem_cons.mpr ⟨lw_p109, List.forall_mem_cons.mpr ⟨lw_p110, List.forall_mem_cons.mpr ⟨lw_p111, fun _ h => absurd h List.not_mem_nil⟩⟩⟩⟩⟩⟩⟩⟩⟩⟩⟩⟩⟩⟩⟩⟩
theorem lw_p112 : lw_okq (⟨"RaffleArmyModel", "wayBy", "(IIII)I"⟩, 44) := ⟨⟨by decide +kernel, by decide +kernel⟩, List.mem_of_getElem? (i := 1122) (by decide +kernel), List.mem_of_getElem? (i := 1751) (by decide +kernel), List.mem_of_getElem? (i := 1752) (by decide +kernel)⟩
def lw_privs_8 : List (MethodName × Nat) := [(⟨"RaffleArmyModel", "wayBy", "(IIII)I"⟩, 44)]
theorem lw_r8 : ∀ q ∈ lw_privs_8, lw_okq q := List.forall_mem_cons.mpr ⟨lw_p112, fun _ h => absurd h List.not_mem_nil⟩
def lw_privs : List (MethodName × Nat) := lw_privs_1 ++ (lw_privs_2 ++ (lw_privs_3 ++ (lw_privs_4 ++ (lw_privs_5 ++ (lw_privs_6 ++ (lw_privs_7 ++ (lw_privs_8)))))))
def lw_tbl : List Cond := k2_sels lw_privs ++ tables_1
theorem lw_privs_ok : ∀ q ∈ lw_privs, lw_okq q := by
  show ∀ q ∈ lw_privs_1 ++ (lw_privs_2 ++ (lw_privs_3 ++ (lw_privs_4 ++ (lw_privs_5 ++ (lw_privs_6 ++ (lw_privs_7 ++ (lw_privs_8))))))), lw_okq q
  exact List.forall_mem_append.mpr ⟨lw_r1, List.forall_mem_append.mpr ⟨lw_r2, List.forall_mem_append.mpr ⟨lw_r3, List.forall_mem_append.mpr ⟨lw_r4, List.forall_mem_append.mpr ⟨lw_r5, List.forall_mem_append.mpr ⟨lw_r6, List.forall_mem_append.mpr ⟨lw_r7, lw_r8⟩⟩⟩⟩⟩⟩⟩
end
section
/-! names: classes, fields, methods, the pools; printed by wip/whole/gen1.py out of the claim's tables -/
def zq_Rl : List String := ["RaffleArmy$Army", "RaffleArmy$Laws", "RaffleArmy$Notes", "RaffleArmy$Raffle", "RaffleArmy$State", "RaffleArmy$Tape", "RaffleArmy$Trade", "RaffleArmy$War", "RaffleArmy$Ways", "RaffleArmy", "RaffleArmyModel", "RaffleArmyLaw", "java/lang/Math", "java/lang/Integer"]
def zq_R (i : Nat) : String := zq_Rl.getD i ""
def zq_Tl0 : List (String × String × String × Bool) := [("RaffleArmy$Army", "posts", "I", false), ("RaffleArmy$Army", "men", "I", false), ("RaffleArmy$Army", "cells", "I", false), ("RaffleArmy$Army", "start", "I", false), ("RaffleArmy$Army", "theirs", "I", false), ("RaffleArmy$Army", "quarter", "I", false), ("RaffleArmy$Army", "heed", "I", false), ("RaffleArmy$Army", "kind", "[I", true), ("RaffleArmy$Army", "weighs", "[I", true), ("RaffleArmy$Army", "under", "[I", true), ("RaffleArmy$Army", "brave", "[I", true), ("RaffleArmy$Army", "wit", "[I", true), ("RaffleArmy$Army", "coins", "[I", true), ("RaffleArmy$Army", "postNames", "[J", true), ("RaffleArmy$Army", "manNames", "[J", true), ("RaffleArmy$Army", "skills", "[I", true), ("RaffleArmy$Army", "likings", "[I", true), ("RaffleArmy$Army", "laws", "LRaffleArmy$Laws;", true), ("RaffleArmy$Army", "linesTold", "I", false)]
def zq_tl0 : List FieldType := [.int, .int, .int, .int, .int, .int, .int, .array .int, .array .int, .array .int, .array .int, .array .int, .array .int, .array .long, .array .long, .array .int, .array .int, .object "RaffleArmy$Laws", .int]
def zq_Tl1 : List (String × String × String × Bool) := [("RaffleArmy$Laws", "steps", "[I", true), ("RaffleArmy$Laws", "begins", "[I", true), ("RaffleArmy$Laws", "ends", "[I", true), ("RaffleArmy$Laws", "pile", "[I", true), ("RaffleArmy$Laws", "facts", "[I", true), ("RaffleArmy$Laws", "used", "I", false)]
def zq_tl1 : List FieldType := [.array .int, .array .int, .array .int, .array .int, .array .int, .int]
def zq_Tl2 : List (String × String × String × Bool) := [("RaffleArmy$Notes", "seen", "[I", true), ("RaffleArmy$Notes", "toldMan", "[I", true), ("RaffleArmy$Notes", "toldPost", "[I", true), ("RaffleArmy$Notes", "seenMany", "I", false), ("RaffleArmy$Notes", "toldMany", "I", false)]
def zq_tl2 : List FieldType := [.array .int, .array .int, .array .int, .int, .int]
def zq_Tl3 : List (String × String × String × Bool) := [("RaffleArmy$Raffle", "g", "J", false), ("RaffleArmy$Raffle", "standing", "[I", true)]
def zq_tl3 : List FieldType := [.long, .array .int]
def zq_Tl4 : List (String × String × String × Bool) := [("RaffleArmy$State", "manOf", "[I", true), ("RaffleArmy$State", "coins", "[I", true), ("RaffleArmy$State", "order", "I", false), ("RaffleArmy$State", "front", "I", false), ("RaffleArmy$State", "week", "I", false), ("RaffleArmy$State", "over", "Z", false)]
def zq_tl4 : List FieldType := [.array .int, .array .int, .int, .int, .int, .boolean]
def zq_Tl5 : List (String × String × String × Bool) := [("RaffleArmy$Tape", "signs", "[C", true), ("RaffleArmy$Tape", "many", "I", false), ("RaffleArmy$Tape", "type", "I", false), ("RaffleArmy$Tape", "word", "LRaffleArmy$Word;", false), ("RaffleArmy$Tape", "code", "J", false), ("RaffleArmy$Tape", "taken", "I", false), ("RaffleArmy$Tape", "sign", "C", false), ("RaffleArmy$Tape", "place", "I", false), ("RaffleArmy$Tape", "next", "I", false), ("RaffleArmy$Tape", "fault", "I", false)]
def zq_tl5 : List FieldType := [.array .char, .int, .int, .object "RaffleArmy$Word", .long, .int, .char, .int, .int, .int]
def zq_Tl6 : List (String × String × String × Bool) := [("RaffleArmy$Trade", "gets", "[I", true), ("RaffleArmy$Trade", "traders", "[I", true), ("RaffleArmy$Trade", "brought", "[I", true), ("RaffleArmy$Trade", "filled", "[I", true), ("RaffleArmy$Trade", "pools", "[I", true)]
def zq_tl6 : List FieldType := [.array .int, .array .int, .array .int, .array .int, .array .int]
def zq_Tl7 : List (String × String × String × Bool) := [("RaffleArmy$War", "many", "I", false), ("RaffleArmy$War", "kind", "[I", true), ("RaffleArmy$War", "first", "[I", true), ("RaffleArmy$War", "second", "[I", true), ("RaffleArmy$War", "third", "[I", true)]
def zq_tl7 : List FieldType := [.int, .array .int, .array .int, .array .int, .array .int]
def zq_Tl8 : List (String × String × String × Bool) := [("RaffleArmy$Ways", "known", "Z", false), ("RaffleArmy$Ways", "most", "I", false), ("RaffleArmy$Ways", "sum", "J", false), ("RaffleArmy$Ways", "mostBy", "[I", true), ("RaffleArmy$Ways", "planned", "[I", true), ("RaffleArmy$Ways", "many", "I", false), ("RaffleArmy$Ways", "triplesMany", "I", false), ("RaffleArmy$Ways", "manOf", "[I", true), ("RaffleArmy$Ways", "triples", "[I", true), ("RaffleArmy$Ways", "waysOf", "[I", true), ("RaffleArmy$Ways", "tried", "[I", true)]
def zq_tl8 : List FieldType := [.boolean, .int, .long, .array .int, .array .int, .int, .int, .array .int, .array .int, .array .int, .array .int]
def zq_Tl9 : List (String × String × String × Bool) := [("RaffleArmy", "tape", "LRaffleArmy$Tape;", true), ("RaffleArmy", "now", "LRaffleArmy$State;", true), ("RaffleArmy", "trial", "LRaffleArmy$State;", true), ("RaffleArmy", "notes", "LRaffleArmy$Notes;", true), ("RaffleArmy", "ways", "LRaffleArmy$Ways;", true), ("RaffleArmy", "trade", "LRaffleArmy$Trade;", true), ("RaffleArmy", "raffle", "LRaffleArmy$Raffle;", true), ("RaffleArmy", "past", "[LRaffleArmy$State;", true), ("RaffleArmy", "markStates", "[LRaffleArmy$State;", true), ("RaffleArmy", "markNotes", "[LRaffleArmy$Notes;", true), ("RaffleArmy", "row", "[I", true), ("RaffleArmy", "army", "LRaffleArmy$Army;", false), ("RaffleArmy", "armyDraft", "LRaffleArmy$Army;", false), ("RaffleArmy", "war", "LRaffleArmy$War;", false), ("RaffleArmy", "warDraft", "LRaffleArmy$War;", false), ("RaffleArmy", "pastMany", "I", false), ("RaffleArmy", "pastNext", "I", false), ("RaffleArmy", "marksLaid", "I", false)]
def zq_tl9 : List FieldType := [.object "RaffleArmy$Tape", .object "RaffleArmy$State", .object "RaffleArmy$State", .object "RaffleArmy$Notes", .object "RaffleArmy$Ways", .object "RaffleArmy$Trade", .object "RaffleArmy$Raffle", .array (.object "RaffleArmy$State"), .array (.object "RaffleArmy$State"), .array (.object "RaffleArmy$Notes"), .array .int, .object "RaffleArmy$Army", .object "RaffleArmy$Army", .object "RaffleArmy$War", .object "RaffleArmy$War", .int, .int, .int]
def zq_Tl10 : List (String × String × String × Bool) := [("RaffleArmyModel", "thrown", "I", false), ("RaffleArmyModel", "tape", "[I", true), ("RaffleArmyModel", "taped", "I", false), ("RaffleArmyModel", "size", "I", false), ("RaffleArmyModel", "sort", "[I", true), ("RaffleArmyModel", "place", "[I", true), ("RaffleArmyModel", "value", "[J", true), ("RaffleArmyModel", "at", "I", false), ("RaffleArmyModel", "fault", "I", false), ("RaffleArmyModel", "words", "[J", true), ("RaffleArmyModel", "armies", "[I", true), ("RaffleArmyModel", "op", "[I", true), ("RaffleArmyModel", "arg", "[I", true), ("RaffleArmyModel", "codes", "I", false), ("RaffleArmyModel", "names", "[J", true), ("RaffleArmyModel", "readNames", "[J", true), ("RaffleArmyModel", "nameOf", "[I", true), ("RaffleArmyModel", "readNameOf", "[I", true), ("RaffleArmyModel", "namesMany", "I", false), ("RaffleArmyModel", "readMany", "I", false), ("RaffleArmyModel", "once", "I", false), ("RaffleArmyModel", "factsHere", "I", false), ("RaffleArmyModel", "lines", "[I", true), ("RaffleArmyModel", "facts", "[I", true), ("RaffleArmyModel", "pile", "[I", true), ("RaffleArmyModel", "state", "[I", true), ("RaffleArmyModel", "undos", "I", false), ("RaffleArmyModel", "isMarked", "[Z", true), ("RaffleArmyModel", "skills", "[I", true), ("RaffleArmyModel", "heldNow", "[I", true), ("RaffleArmyModel", "g", "J", false), ("RaffleArmyModel", "row", "[I", true), ("RaffleArmyModel", "ways", "I", false), ("RaffleArmyModel", "oursSum", "J", false), ("RaffleArmyModel", "mostOurs", "I", false), ("RaffleArmyModel", "bestHeld", "[I", true), ("RaffleArmyModel", "oursIn", "[I", true), ("RaffleArmyModel", "goesIn", "[I", true), ("RaffleArmyModel", "swapped", "[I", true), ("RaffleArmyModel", "looksAt", "[I", true), ("RaffleArmyModel", "poolMost", "I", false), ("RaffleArmyModel", "rows", "I", false), ("RaffleArmyModel", "firstRow", "I", false), ("RaffleArmyModel", "offs", "[I", true)]
def zq_tl10 : List FieldType := [.int, .array .int, .int, .int, .array .int, .array .int, .array .long, .int, .int, .array .long, .array .int, .array .int, .array .int, .int, .array .long, .array .long, .array .int, .array .int, .int, .int, .int, .int, .array .int, .array .int, .array .int, .array .int, .int, .array .boolean, .array .int, .array .int, .long, .array .int, .int, .long, .int, .array .int, .array .int, .array .int, .array .int, .array .int, .int, .int, .int, .array .int]
def zq_Tls : List (List (String × String × String × Bool)) := [zq_Tl0, zq_Tl1, zq_Tl2, zq_Tl3, zq_Tl4, zq_Tl5, zq_Tl6, zq_Tl7, zq_Tl8, zq_Tl9, zq_Tl10]
def zq_tls : List (List FieldType) := [zq_tl0, zq_tl1, zq_tl2, zq_tl3, zq_tl4, zq_tl5, zq_tl6, zq_tl7, zq_tl8, zq_tl9, zq_tl10]
def zq_Tf (ci : Nat) : u_T := fun k => (zq_Tls.getD ci []).getD k ("", "", "", false)
def zq_ty (ci k : Nat) : FieldType := (zq_tls.getD ci []).getD k .int
def zq_N (ci : Nat) : Nat := (zq_Tls.getD ci []).length
def zq_cl : List vw_C := (List.range 11).map (fun ci => (zq_R ci, zq_Tf ci, zq_N ci))
def zq_WG : List Cond := lw_tbl.filter goodWord
def zq_has (p : Nat) (w : Cond) : Bool := decide (lw_tbl[p]? = some w) && goodWord w
theorem zq_in {p : Nat} {w : Cond} (h : zq_has p w = true) : w ∈ zq_WG := by
  simp only [zq_has, Bool.and_eq_true, decide_eq_true_eq] at h
  exact List.mem_filter.mpr ⟨List.mem_of_getElem? h.1, h.2⟩
theorem zq_nm : ∀ ci, ci < 11 → ∀ a, a < zq_N ci → ∀ b, b < zq_N ci → a ≠ b → (zq_Tf ci a).2.1 ≠ (zq_Tf ci b).2.1 := by decide +kernel
theorem zq_tyok : ∀ ci, ci < 11 → ∀ k, k < zq_N ci → parseFieldDescriptor (zq_Tf ci k).2.2.1 = some (zq_ty ci k) := by decide +kernel
def zq_lp0 : List Nat := [412, 414, 416, 418, 420, 422, 424, 426, 428, 430, 432, 434, 436, 438, 440, 442, 444, 446, 448]
def zq_lp1 : List Nat := [354, 356, 358, 360, 362, 364]
def zq_lp2 : List Nat := [242, 244, 246, 248, 250]
def zq_lp3 : List Nat := [329, 331]
def zq_lp4 : List Nat := [212, 214, 216, 218, 220, 222]
def zq_lp5 : List Nat := [168, 170, 172, 174, 176, 178, 180, 182, 184, 186]
def zq_lp6 : List Nat := [310, 312, 314, 316, 318]
def zq_lp7 : List Nat := [463, 465, 467, 469, 471]
def zq_lp8 : List Nat := [275, 277, 279, 281, 283, 285, 287, 289, 291, 293, 295]
def zq_lp9 : List Nat := [502, 504, 506, 508, 510, 512, 514, 516, 518, 520, 522, 524, 526, 528, 530, 532, 534, 536]
def zq_lp10 : List Nat := [1346, 1348, 1350, 1352, 1354, 1356, 1358, 1360, 1362, 1364, 1366, 1368, 1370, 1372, 1374, 1376, 1378, 1380, 1382, 1384, 1386, 1388, 1390, 1392, 1394, 1396, 1398, 1400, 1402, 1404, 1406, 1408, 1410, 1412, 1414, 1416, 1418, 1420, 1422, 1424, 1426, 1428, 1430, 1432]
def zq_lps : List (List Nat) := [zq_lp0, zq_lp1, zq_lp2, zq_lp3, zq_lp4, zq_lp5, zq_lp6, zq_lp7, zq_lp8, zq_lp9, zq_lp10]
theorem zq_layk : ∀ ci, ci < 11 → ∀ k, k < zq_N ci → zq_has ((zq_lps.getD ci []).getD k 0) (u_lay (zq_R ci) (zq_Tf ci) k) = true := by decide +kernel
theorem zq_lay {ci : Nat} (h : ci < 11) : ∀ w ∈ u_ws (zq_R ci) (zq_Tf ci) (zq_N ci), w ∈ zq_WG := by
  intro w hw
  obtain ⟨k, hk, rfl⟩ := List.mem_map.mp hw
  exact zq_in (zq_layk ci h k (List.mem_range.mp hk))
abbrev zq_I : Type := MethodName × ByteArray × Nat × Option FieldType × Nat × Nat × Nat
def zq_m0 : zq_I := (⟨"RaffleArmy", "<init>", "()V"⟩, prog_1_method_1_code, 2, none, 9, 1, 2)
def zq_m1 : zq_I := (⟨"RaffleArmy$Tape", "<init>", "()V"⟩, prog_7_method_1_code, 1, none, 5, 1, 2)
def zq_m2 : zq_I := (⟨"RaffleArmy$State", "<init>", "()V"⟩, prog_6_method_1_code, 1, none, 4, 1, 2)
def zq_m3 : zq_I := (⟨"RaffleArmy$Notes", "<init>", "()V"⟩, prog_4_method_1_code, 1, none, 2, 1, 2)
def zq_m4 : zq_I := (⟨"RaffleArmy$Ways", "<init>", "()V"⟩, prog_10_method_1_code, 1, none, 8, 1, 2)
def zq_m5 : zq_I := (⟨"RaffleArmy$Trade", "<init>", "()V"⟩, prog_8_method_1_code, 1, none, 6, 1, 2)
def zq_m6 : zq_I := (⟨"RaffleArmy$Raffle", "<init>", "()V"⟩, prog_5_method_1_code, 1, none, 3, 1, 2)
def zq_m7 : zq_I := (⟨"RaffleArmy$Army", "<init>", "()V"⟩, prog_2_method_1_code, 1, none, 0, 1, 2)
def zq_m8 : zq_I := (⟨"RaffleArmy$Laws", "<init>", "()V"⟩, prog_3_method_1_code, 1, none, 1, 1, 2)
def zq_m9 : zq_I := (⟨"RaffleArmy$War", "<init>", "()V"⟩, prog_9_method_1_code, 1, none, 7, 1, 2)
def zq_m10 : zq_I := (⟨"RaffleArmy$State", "begin", "(LRaffleArmy$Army;)V"⟩, prog_6_method_2_code, 3, none, 4, 2, 1)
def zq_m11 : zq_I := (⟨"RaffleArmy", "put", "([III)V"⟩, prog_1_method_47_code, 3, none, 9, 3, 0)
def zq_m12 : zq_I := (⟨"RaffleArmy", "at", "([II)I"⟩, prog_1_method_46_code, 2, (some .int), 9, 2, 0)
def zq_m13 : zq_I := (⟨"RaffleArmy", "feed", "(JJJ)I"⟩, prog_1_method_2_code, 7, (some .int), 9, 4, 1)
def zq_m14 : zq_I := (⟨"RaffleArmy$Tape", "addEight", "(J)V"⟩, prog_7_method_2_code, 5, none, 5, 2, 1)
def zq_m15 : zq_I := (⟨"RaffleArmy", "army", "()I"⟩, prog_1_method_3_code, 3, (some .int), 9, 1, 1)
def zq_m16 : zq_I := (⟨"RaffleArmy$Army", "readFrom", "(LRaffleArmy$Tape;)I"⟩, prog_2_method_3_code, 4, (some .int), 0, 2, 1)
def zq_m17 : zq_I := (⟨"RaffleArmy$Army", "clear", "()V"⟩, prog_2_method_2_code, 1, none, 0, 1, 1)
def zq_m18 : zq_I := (⟨"RaffleArmy$Laws", "clear", "()V"⟩, prog_3_method_2_code, 2, none, 1, 1, 1)
def zq_m19 : zq_I := (⟨"RaffleArmy$Tape", "startReading", "()V"⟩, prog_7_method_3_code, 1, none, 5, 1, 1)
def zq_m20 : zq_I := (⟨"RaffleArmy$Tape", "step", "()V"⟩, prog_7_method_5_code, 4, none, 5, 1, 1)
def zq_m21 : zq_I := (⟨"RaffleArmy$Tape", "signAt", "(I)C"⟩, prog_7_method_6_code, 2, (some .char), 5, 2, 1)
def zq_m22 : zq_I := (⟨"RaffleArmy$Tape", "typeOf", "(C)I"⟩, prog_7_method_7_code, 2, (some .int), 5, 1, 0)
def zq_m23 : zq_I := (⟨"RaffleArmy$Tape", "wordOf", "(J)LRaffleArmy$Word;"⟩, prog_7_method_8_code, 3, (some (.object "RaffleArmy$Word")), 5, 1, 0)
def zq_m24 : zq_I := (⟨"RaffleArmy$Army", "readLine", "(LRaffleArmy$Tape;)Z"⟩, prog_2_method_4_code, 5, (some .boolean), 0, 2, 1)
def zq_m25 : zq_I := (⟨"RaffleArmy$Army", "readPost", "(LRaffleArmy$Tape;)Z"⟩, prog_2_method_7_code, 4, (some .boolean), 0, 2, 1)
def zq_m26 : zq_I := (⟨"RaffleArmy$Tape", "wrong", "(I)Z"⟩, prog_7_method_12_code, 2, (some .boolean), 5, 2, 1)
def zq_m27 : zq_I := (⟨"RaffleArmy$Army", "takeNewName", "(LRaffleArmy$Tape;)Z"⟩, prog_2_method_10_code, 2, (some .boolean), 0, 2, 1)
def zq_m28 : zq_I := (⟨"RaffleArmy$Tape", "isName", "()Z"⟩, prog_7_method_10_code, 1, (some .boolean), 5, 1, 1)
def zq_m29 : zq_I := (⟨"RaffleArmy$Army", "indexOf", "([JIJ)I"⟩, prog_2_method_12_code, 5, (some .int), 0, 3, 0)
def zq_m30 : zq_I := (⟨"RaffleArmy$Army", "manNamed", "(J)I"⟩, prog_2_method_11_code, 3, (some .int), 0, 2, 1)
def zq_m31 : zq_I := (⟨"RaffleArmy$Tape", "takeWhich", "(I)Z"⟩, prog_7_method_15_code, 2, (some .boolean), 5, 2, 1)
def zq_m32 : zq_I := (⟨"RaffleArmy$Tape", "which", "(I)I"⟩, prog_7_method_11_code, 2, (some .int), 5, 2, 1)
def zq_m33 : zq_I := (⟨"RaffleArmy$Tape", "takeWord", "(LRaffleArmy$Word;)Z"⟩, prog_7_method_14_code, 2, (some .boolean), 5, 2, 1)
def zq_m34 : zq_I := (⟨"RaffleArmy$Tape", "takeNumber", "(II)Z"⟩, prog_7_method_16_code, 3, (some .boolean), 5, 3, 1)
def zq_m35 : zq_I := (⟨"RaffleArmy", "within", "(III)Z"⟩, prog_1_method_44_code, 3, (some .boolean), 9, 3, 0)
def zq_m36 : zq_I := (⟨"RaffleArmy$Army", "readUnder", "(LRaffleArmy$Tape;)Z"⟩, prog_2_method_8_code, 3, (some .boolean), 0, 2, 1)
def zq_m37 : zq_I := (⟨"RaffleArmy$Tape", "takeSign", "(C)Z"⟩, prog_7_method_13_code, 2, (some .boolean), 5, 2, 1)
def zq_m38 : zq_I := (⟨"RaffleArmy$Tape", "isSign", "(C)Z"⟩, prog_7_method_9_code, 2, (some .boolean), 5, 2, 1)
def zq_m39 : zq_I := (⟨"RaffleArmy$Army", "readMan", "(LRaffleArmy$Tape;)Z"⟩, prog_2_method_9_code, 4, (some .boolean), 0, 2, 1)
def zq_m40 : zq_I := (⟨"RaffleArmy$Laws", "readLaw", "(LRaffleArmy$Tape;I)Z"⟩, prog_3_method_4_code, 4, (some .boolean), 1, 3, 1)
def zq_m41 : zq_I := (⟨"RaffleArmy$Laws", "readTests", "(LRaffleArmy$Tape;II)Z"⟩, prog_3_method_6_code, 7, (some .boolean), 1, 4, 1)
def zq_m42 : zq_I := (⟨"RaffleArmy$Laws", "readTest", "(LRaffleArmy$Tape;II)Z"⟩, prog_3_method_7_code, 6, (some .boolean), 1, 4, 1)
def zq_m43 : zq_I := (⟨"RaffleArmy$Laws", "readSum", "(LRaffleArmy$Tape;II)Z"⟩, prog_3_method_8_code, 7, (some .boolean), 1, 4, 1)
def zq_m44 : zq_I := (⟨"RaffleArmy$Laws", "readProduct", "(LRaffleArmy$Tape;II)Z"⟩, prog_3_method_9_code, 6, (some .boolean), 1, 4, 1)
def zq_m45 : zq_I := (⟨"RaffleArmy$Laws", "readPart", "(LRaffleArmy$Tape;II)Z"⟩, prog_3_method_10_code, 8, (some .boolean), 1, 4, 1)
def zq_m46 : zq_I := (⟨"RaffleArmy$Laws", "add", "(I)V"⟩, prog_3_method_5_code, 2, none, 1, 2, 1)
def zq_m47 : zq_I := (⟨"RaffleArmy$Army", "readOnce", "(LRaffleArmy$Tape;LRaffleArmy$Word;)Z"⟩, prog_2_method_5_code, 5, (some .boolean), 0, 3, 1)
def zq_m48 : zq_I := (⟨"RaffleArmy$Army", "readFront", "(LRaffleArmy$Tape;)Z"⟩, prog_2_method_6_code, 2, (some .boolean), 0, 2, 1)
def zq_m49 : zq_I := (⟨"RaffleArmy$Army", "fillTables", "()V"⟩, prog_2_method_13_code, 3, none, 0, 1, 1)
def zq_m50 : zq_I := (⟨"RaffleArmy$Army", "lawOfSkill", "(II)I"⟩, prog_2_method_14_code, 3, (some .int), 0, 3, 1)
def zq_m51 : zq_I := (⟨"RaffleArmy$Laws", "isTold", "(I)Z"⟩, prog_3_method_3_code, 2, (some .boolean), 1, 2, 1)
def zq_m52 : zq_I := (⟨"RaffleArmy$Army", "lawOf", "(III)I"⟩, prog_2_method_16_code, 4, (some .int), 0, 4, 1)
def zq_m53 : zq_I := (⟨"RaffleArmy$Laws", "value", "(IIIII)I"⟩, prog_3_method_11_code, 9, (some .int), 1, 6, 1)
def zq_m54 : zq_I := (⟨"RaffleArmy$Laws", "joined", "(III)I"⟩, prog_3_method_12_code, 3, (some .int), 1, 3, 0)
def zq_m55 : zq_I := (⟨"RaffleArmy", "clamp", "(III)I"⟩, prog_1_method_45_code, 3, (some .int), 9, 3, 0)
def zq_m56 : zq_I := (⟨"java/lang/Math", "min", "(II)I"⟩, prog_18_method_69_code, 2, (some .int), 12, 2, 0)
def zq_m57 : zq_I := (⟨"java/lang/Math", "max", "(II)I"⟩, prog_18_method_65_code, 2, (some .int), 12, 2, 0)
def zq_m58 : zq_I := (⟨"RaffleArmy$Army", "lawOfWorth", "(II)I"⟩, prog_2_method_15_code, 3, (some .int), 0, 3, 1)
def zq_m59 : zq_I := (⟨"RaffleArmy$Tape", "endReading", "()I"⟩, prog_7_method_4_code, 1, (some .int), 5, 1, 1)
def zq_m60 : zq_I := (⟨"RaffleArmy$Notes", "forget", "()V"⟩, prog_4_method_2_code, 1, none, 2, 1, 1)
def zq_m61 : zq_I := (⟨"RaffleArmy", "war", "()I"⟩, prog_1_method_4_code, 3, (some .int), 9, 1, 1)
def zq_m62 : zq_I := (⟨"RaffleArmy$War", "readFrom", "(LRaffleArmy$Tape;LRaffleArmy$Army;)I"⟩, prog_9_method_2_code, 5, (some .int), 7, 3, 1)
def zq_m63 : zq_I := (⟨"RaffleArmy$War", "readLine", "(LRaffleArmy$Tape;LRaffleArmy$Army;)Z"⟩, prog_9_method_3_code, 4, (some .boolean), 7, 3, 1)
def zq_m64 : zq_I := (⟨"RaffleArmy$War", "readRest", "(LRaffleArmy$Tape;LRaffleArmy$Army;I)Z"⟩, prog_9_method_4_code, 5, (some .boolean), 7, 4, 1)
def zq_m65 : zq_I := (⟨"RaffleArmy$War", "readSell", "(LRaffleArmy$Tape;LRaffleArmy$Army;)Z"⟩, prog_9_method_5_code, 5, (some .boolean), 7, 3, 1)
def zq_m66 : zq_I := (⟨"RaffleArmy$War", "takeMan", "(LRaffleArmy$Tape;LRaffleArmy$Army;I)Z"⟩, prog_9_method_6_code, 4, (some .boolean), 7, 3, 0)
def zq_m67 : zq_I := (⟨"RaffleArmy", "post", "(II)I"⟩, prog_1_method_5_code, 3, (some .int), 9, 3, 1)
def zq_m68 : zq_I := (⟨"RaffleArmy$Army", "hasPost", "(I)Z"⟩, prog_2_method_17_code, 2, (some .boolean), 0, 2, 1)
def zq_m69 : zq_I := (⟨"RaffleArmy$Army", "obeying", "([I)I"⟩, prog_2_method_22_code, 6, (some .int), 0, 2, 1)
def zq_m70 : zq_I := (⟨"RaffleArmy$Army", "skillOf", "(II)I"⟩, prog_2_method_19_code, 3, (some .int), 0, 3, 1)
def zq_m71 : zq_I := (⟨"RaffleArmy$Army", "hasMan", "(I)Z"⟩, prog_2_method_18_code, 2, (some .boolean), 0, 2, 1)
def zq_m72 : zq_I := (⟨"RaffleArmy", "man", "(II)I"⟩, prog_1_method_6_code, 3, (some .int), 9, 3, 1)
def zq_m73 : zq_I := (⟨"RaffleArmy$State", "postOf", "(I)I"⟩, prog_6_method_4_code, 3, (some .int), 4, 2, 1)
def zq_m74 : zq_I := (⟨"RaffleArmy", "skill", "(II)I"⟩, prog_1_method_7_code, 3, (some .int), 9, 3, 1)
def zq_m75 : zq_I := (⟨"RaffleArmy", "ours", "()I"⟩, prog_1_method_8_code, 1, (some .int), 9, 1, 1)
def zq_m76 : zq_I := (⟨"RaffleArmy$Army", "strength", "([I)I"⟩, prog_2_method_23_code, 7, (some .int), 0, 2, 1)
def zq_m77 : zq_I := (⟨"RaffleArmy$Army", "forceOf", "(II)I"⟩, prog_2_method_21_code, 3, (some .int), 0, 3, 1)
def zq_m78 : zq_I := (⟨"RaffleArmy", "draw", "(I)Z"⟩, prog_1_method_9_code, 2, (some .boolean), 9, 2, 1)
def zq_m79 : zq_I := (⟨"RaffleArmy", "remember", "()V"⟩, prog_1_method_34_code, 1, none, 9, 1, 1)
def zq_m80 : zq_I := (⟨"RaffleArmy$State", "copyFrom", "(LRaffleArmy$State;)V"⟩, prog_6_method_3_code, 3, none, 4, 2, 1)
def zq_m81 : zq_I := (⟨"RaffleArmy$Raffle", "sow", "(I)V"⟩, prog_5_method_2_code, 2, none, 3, 2, 1)
def zq_m82 : zq_I := (⟨"RaffleArmy$Raffle", "deal", "(LRaffleArmy$Army;LRaffleArmy$State;)V"⟩, prog_5_method_4_code, 6, none, 3, 3, 1)
def zq_m83 : zq_I := (⟨"RaffleArmy$Raffle", "below", "(I)I"⟩, prog_5_method_3_code, 2, (some .int), 3, 2, 1)
def zq_m84 : zq_I := (⟨"RaffleArmy", "sell", "(III)Z"⟩, prog_1_method_10_code, 4, (some .boolean), 9, 4, 1)
def zq_m85 : zq_I := (⟨"RaffleArmy$State", "canTrade", "(LRaffleArmy$Army;III)Z"⟩, prog_6_method_6_code, 5, (some .boolean), 4, 5, 1)
def zq_m86 : zq_I := (⟨"RaffleArmy$State", "trade", "(III)V"⟩, prog_6_method_7_code, 6, none, 4, 4, 1)
def zq_m87 : zq_I := (⟨"RaffleArmy", "order", "(I)Z"⟩, prog_1_method_11_code, 2, (some .boolean), 9, 2, 1)
def zq_m88 : zq_I := (⟨"RaffleArmy$State", "canCommand", "(I)Z"⟩, prog_6_method_8_code, 2, (some .boolean), 4, 2, 1)
def zq_m89 : zq_I := (⟨"RaffleArmy", "weeks", "(I)I"⟩, prog_1_method_12_code, 2, (some .int), 9, 2, 1)
def zq_m90 : zq_I := (⟨"RaffleArmy$State", "canPass", "(LRaffleArmy$Army;)Z"⟩, prog_6_method_9_code, 2, (some .boolean), 4, 2, 1)
def zq_m91 : zq_I := (⟨"RaffleArmy$State", "pass", "(LRaffleArmy$Army;I)I"⟩, prog_6_method_10_code, 5, (some .int), 4, 3, 1)
def zq_m92 : zq_I := (⟨"RaffleArmy$Army", "move", "(III)I"⟩, prog_2_method_24_code, 4, (some .int), 0, 4, 1)
def zq_m93 : zq_I := (⟨"java/lang/Integer", "compare", "(II)I"⟩, prog_17_method_40_code, 2, (some .int), 13, 2, 0)
def zq_m94 : zq_I := (⟨"RaffleArmy$Army", "after", "(II)I"⟩, prog_2_method_25_code, 3, (some .int), 0, 3, 1)
def zq_m95 : zq_I := (⟨"RaffleArmy", "undo", "()Z"⟩, prog_1_method_13_code, 2, (some .boolean), 9, 1, 1)
def zq_m96 : zq_I := (⟨"RaffleArmy", "judged", "(I)I"⟩, prog_1_method_14_code, 3, (some .int), 9, 2, 1)
def zq_m97 : zq_I := (⟨"RaffleArmy$War", "runOn", "(LRaffleArmy$Army;LRaffleArmy$State;LRaffleArmy$Raffle;)I"⟩, prog_9_method_7_code, 6, (some .int), 7, 4, 1)
def zq_m98 : zq_I := (⟨"RaffleArmy$War", "runLine", "(ILRaffleArmy$Army;LRaffleArmy$State;LRaffleArmy$Raffle;)Z"⟩, prog_9_method_8_code, 8, (some .boolean), 7, 5, 1)
def zq_m99 : zq_I := (⟨"RaffleArmy", "first", "()I"⟩, prog_1_method_15_code, 5, (some .int), 9, 1, 1)
def zq_m100 : zq_I := (⟨"RaffleArmy", "best", "(I)I"⟩, prog_1_method_16_code, 2, (some .int), 9, 2, 1)
def zq_m101 : zq_I := (⟨"RaffleArmy$Ways", "learn", "(LRaffleArmy$Army;)V"⟩, prog_10_method_2_code, 3, none, 8, 2, 1)
def zq_m102 : zq_I := (⟨"RaffleArmy$Ways", "place", "(LRaffleArmy$Army;III)V"⟩, prog_10_method_3_code, 6, none, 8, 5, 1)
def zq_m103 : zq_I := (⟨"RaffleArmy$Ways", "settle", "(LRaffleArmy$Army;)V"⟩, prog_10_method_4_code, 5, none, 8, 2, 1)
def zq_m104 : zq_I := (⟨"RaffleArmy", "mean", "()I"⟩, prog_1_method_17_code, 1, (some .int), 9, 1, 1)
def zq_m105 : zq_I := (⟨"RaffleArmy$Ways", "thousandths", "(J)I"⟩, prog_10_method_5_code, 3, (some .int), 8, 2, 1)
def zq_m106 : zq_I := (⟨"RaffleArmy", "loss", "()I"⟩, prog_1_method_18_code, 1, (some .int), 9, 1, 1)
def zq_m107 : zq_I := (⟨"RaffleArmy", "plan", "(II)I"⟩, prog_1_method_19_code, 5, (some .int), 9, 3, 1)
def zq_m108 : zq_I := (⟨"RaffleArmy$Ways", "furthest", "(LRaffleArmy$Army;II)J"⟩, prog_10_method_6_code, 11, (some .long), 8, 4, 1)
def zq_m109 : zq_I := (⟨"RaffleArmy", "power", "(II)J"⟩, prog_1_method_39_code, 5, (some .long), 9, 2, 0)
def zq_m110 : zq_I := (⟨"RaffleArmy$Ways", "spell", "(II)V"⟩, prog_10_method_7_code, 5, none, 8, 3, 1)
def zq_m111 : zq_I := (⟨"RaffleArmy$Ways", "reached", "(LRaffleArmy$Army;II)J"⟩, prog_10_method_8_code, 10, (some .long), 8, 4, 1)
def zq_m112 : zq_I := (⟨"RaffleArmy$Ways", "moveBy", "(II)I"⟩, prog_10_method_9_code, 3, (some .int), 8, 2, 0)
def zq_m113 : zq_I := (⟨"RaffleArmy", "swaps", "(I)I"⟩, prog_1_method_20_code, 2, (some .int), 9, 2, 1)
def zq_m114 : zq_I := (⟨"RaffleArmy$Trade", "swapAll", "(LRaffleArmy$Army;LRaffleArmy$State;)V"⟩, prog_8_method_2_code, 6, none, 6, 3, 1)
def zq_m115 : zq_I := (⟨"RaffleArmy$Trade", "swapRing", "(LRaffleArmy$Army;LRaffleArmy$State;II)I"⟩, prog_8_method_3_code, 9, (some .int), 6, 5, 1)
def zq_m116 : zq_I := (⟨"RaffleArmy$Trade", "likedBest", "(LRaffleArmy$Army;LRaffleArmy$State;II)I"⟩, prog_8_method_4_code, 8, (some .int), 6, 4, 0)
def zq_m117 : zq_I := (⟨"RaffleArmy$Army", "likingOf", "(II)I"⟩, prog_2_method_20_code, 3, (some .int), 0, 3, 1)
def zq_m118 : zq_I := (⟨"RaffleArmy", "leave", "()I"⟩, prog_1_method_21_code, 3, (some .int), 9, 1, 1)
def zq_m119 : zq_I := (⟨"RaffleArmy", "pool", "(I)I"⟩, prog_1_method_22_code, 2, (some .int), 9, 2, 1)
def zq_m120 : zq_I := (⟨"RaffleArmy", "canPool", "(I)Z"⟩, prog_1_method_35_code, 3, (some .boolean), 9, 2, 1)
def zq_m121 : zq_I := (⟨"RaffleArmy$Trade", "worthOf", "(LRaffleArmy$Army;LRaffleArmy$State;I)I"⟩, prog_8_method_5_code, 10, (some .int), 6, 4, 1)
def zq_m122 : zq_I := (⟨"java/lang/Integer", "bitCount", "(I)I"⟩, prog_17_method_49_code, 1, (some .int), 13, 1, 0)
def zq_m123 : zq_I := (⟨"RaffleArmy", "share", "(II)I"⟩, prog_1_method_23_code, 3, (some .int), 9, 3, 1)
def zq_m124 : zq_I := (⟨"RaffleArmy$Trade", "shareOf", "(LRaffleArmy$Army;LRaffleArmy$State;II)I"⟩, prog_8_method_6_code, 12, (some .int), 6, 5, 1)
def zq_m125 : zq_I := (⟨"RaffleArmy$Trade", "rowsOf", "(I)J"⟩, prog_8_method_7_code, 4, (some .long), 6, 1, 0)
def zq_m126 : zq_I := (⟨"RaffleArmy", "tell", "(II)Z"⟩, prog_1_method_24_code, 3, (some .boolean), 9, 3, 1)
def zq_m127 : zq_I := (⟨"RaffleArmy", "fair", "(II)I"⟩, prog_1_method_25_code, 3, (some .int), 9, 3, 1)
def zq_m128 : zq_I := (⟨"RaffleArmy", "canWeigh", "(II)Z"⟩, prog_1_method_36_code, 3, (some .boolean), 9, 3, 1)
def zq_m129 : zq_I := (⟨"RaffleArmy$Notes", "ticketsOf", "(I)I"⟩, prog_4_method_4_code, 4, (some .int), 2, 2, 1)
def zq_m130 : zq_I := (⟨"RaffleArmy", "chance", "(III)I"⟩, prog_1_method_37_code, 9, (some .int), 9, 4, 1)
def zq_m131 : zq_I := (⟨"RaffleArmy", "luckyWays", "(IIII)J"⟩, prog_1_method_38_code, 9, (some .long), 9, 4, 0)
def zq_m132 : zq_I := (⟨"RaffleArmy", "more", "(III)I"⟩, prog_1_method_26_code, 5, (some .int), 9, 4, 1)
def zq_m133 : zq_I := (⟨"RaffleArmy", "see", "(I)Z"⟩, prog_1_method_27_code, 2, (some .boolean), 9, 2, 1)
def zq_m134 : zq_I := (⟨"RaffleArmy", "orders", "(I)I"⟩, prog_1_method_28_code, 3, (some .int), 9, 2, 1)
def zq_m135 : zq_I := (⟨"RaffleArmy", "rowsSeen", "()I"⟩, prog_1_method_40_code, 8, (some .int), 9, 1, 1)
def zq_m136 : zq_I := (⟨"RaffleArmy", "putOff", "(I)I"⟩, prog_1_method_29_code, 4, (some .int), 9, 2, 1)
def zq_m137 : zq_I := (⟨"RaffleArmy", "fillDelays", "(I)V"⟩, prog_1_method_41_code, 7, none, 9, 2, 1)
def zq_m138 : zq_I := (⟨"RaffleArmy", "firstDelaying", "(I)I"⟩, prog_1_method_42_code, 5, (some .int), 9, 2, 1)
def zq_m139 : zq_I := (⟨"RaffleArmy", "years", "(III)I"⟩, prog_1_method_31_code, 8, (some .int), 9, 4, 1)
def zq_m140 : zq_I := (⟨"RaffleArmy", "mark", "(IZ)Z"⟩, prog_1_method_32_code, 3, (some .boolean), 9, 3, 1)
def zq_m141 : zq_I := (⟨"RaffleArmy$Notes", "copyFrom", "(LRaffleArmy$Notes;)V"⟩, prog_4_method_3_code, 3, none, 2, 2, 1)
def zq_m142 : zq_I := (⟨"RaffleArmy", "count", "(I)I"⟩, prog_1_method_33_code, 2, (some .int), 9, 2, 1)
def zq_m143 : zq_I := (⟨"RaffleArmy$State", "coinsOfAll", "(LRaffleArmy$Army;)I"⟩, prog_6_method_5_code, 4, (some .int), 4, 2, 1)
def zq_m144 : zq_I := (⟨"RaffleArmy", "rests", "(III)I"⟩, prog_1_method_30_code, 8, (some .int), 9, 4, 1)
def zq_m145 : zq_I := (⟨"RaffleArmy", "bestOf", "(II)I"⟩, prog_1_method_43_code, 2, (some .int), 9, 2, 0)
def zq_m146 : zq_I := (⟨"RaffleArmyModel", "thrown", "()I"⟩, prog_13_method_1_code, 1, (some .int), 10, 1, 1)
def zq_m147 : zq_I := (⟨"RaffleArmyModel", "feed", "(JJJ)I"⟩, prog_13_method_2_code, 7, (some .int), 10, 4, 1)
def zq_m148 : zq_I := (⟨"RaffleArmyModel", "lay", "(J)V"⟩, prog_13_method_3_code, 5, none, 10, 2, 1)
def zq_m149 : zq_I := (⟨"RaffleArmyModel", "<init>", "()V"⟩, prog_13_method_4_code, 1, none, 10, 1, 2)
def zq_m150 : zq_I := (⟨"RaffleArmyModel", "standsAsAlways", "(I)V"⟩, prog_13_method_18_code, 3, none, 10, 2, 1)
def zq_m151 : zq_I := (⟨"RaffleArmyModel", "begins", "()V"⟩, prog_13_method_43_code, 2, none, 10, 1, 1)
def zq_m152 : zq_I := (⟨"RaffleArmyModel", "starts", "(I)V"⟩, prog_13_method_42_code, 3, none, 10, 2, 1)
def zq_m153 : zq_I := (⟨"RaffleArmyModel", "posts", "()I"⟩, prog_13_method_45_code, 1, (some .int), 10, 1, 1)
def zq_m154 : zq_I := (⟨"RaffleArmyModel", "men", "()I"⟩, prog_13_method_46_code, 1, (some .int), 10, 1, 1)
def zq_m155 : zq_I := (⟨"RaffleArmyModel", "manOf", "(II)I"⟩, prog_13_method_50_code, 3, (some .int), 10, 3, 1)
def zq_m156 : zq_I := (⟨"RaffleArmyModel", "army", "()I"⟩, prog_13_method_26_code, 2, (some .int), 10, 1, 1)
def zq_m157 : zq_I := (⟨"RaffleArmyModel", "cutAll", "()V"⟩, prog_13_method_9_code, 7, none, 10, 1, 1)
def zq_m158 : zq_I := (⟨"RaffleArmyModel", "isLetter", "(I)Z"⟩, prog_13_method_5_code, 1, (some .boolean), 10, 1, 0)
def zq_m159 : zq_I := (⟨"RaffleArmyModel", "rank", "(I)I"⟩, prog_13_method_7_code, 1, (some .int), 10, 1, 0)
def zq_m160 : zq_I := (⟨"RaffleArmyModel", "isDigit", "(I)Z"⟩, prog_13_method_6_code, 1, (some .boolean), 10, 1, 0)
def zq_m161 : zq_I := (⟨"RaffleArmyModel", "isSignOf", "(I)Z"⟩, prog_13_method_8_code, 1, (some .boolean), 10, 1, 0)
def zq_m162 : zq_I := (⟨"RaffleArmyModel", "isWord", "(I)Z"⟩, prog_13_method_12_code, 2, (some .boolean), 10, 2, 1)
def zq_m163 : zq_I := (⟨"RaffleArmyModel", "readPost", "()V"⟩, prog_13_method_28_code, 4, none, 10, 1, 1)
def zq_m164 : zq_I := (⟨"RaffleArmyModel", "wrong", "(I)V"⟩, prog_13_method_10_code, 2, none, 10, 2, 1)
def zq_m165 : zq_I := (⟨"RaffleArmyModel", "readName", "(I)V"⟩, prog_13_method_27_code, 2, none, 10, 2, 1)
def zq_m166 : zq_I := (⟨"RaffleArmyModel", "isName", "()Z"⟩, prog_13_method_23_code, 1, (some .boolean), 10, 1, 1)
def zq_m167 : zq_I := (⟨"RaffleArmyModel", "wordHere", "(II)I"⟩, prog_13_method_21_code, 5, (some .int), 10, 3, 1)
def zq_m168 : zq_I := (⟨"RaffleArmyModel", "find", "(Z)I"⟩, prog_13_method_24_code, 3, (some .int), 10, 2, 1)
def zq_m169 : zq_I := (⟨"RaffleArmyModel", "takeOne", "(II)I"⟩, prog_13_method_22_code, 4, (some .int), 10, 3, 1)
def zq_m170 : zq_I := (⟨"RaffleArmyModel", "takeAfter", "(III)I"⟩, prog_13_method_20_code, 4, (some .int), 10, 4, 1)
def zq_m171 : zq_I := (⟨"RaffleArmyModel", "takeWord", "(I)V"⟩, prog_13_method_16_code, 2, none, 10, 2, 1)
def zq_m172 : zq_I := (⟨"RaffleArmyModel", "hasWord", "(I)Z"⟩, prog_13_method_15_code, 3, (some .boolean), 10, 2, 1)
def zq_m173 : zq_I := (⟨"RaffleArmyModel", "takeNumber", "(II)I"⟩, prog_13_method_19_code, 3, (some .int), 10, 3, 1)
def zq_m174 : zq_I := (⟨"RaffleArmyModel", "toldHere", "(ZII)I"⟩, prog_13_method_25_code, 5, (some .int), 10, 4, 1)
def zq_m175 : zq_I := (⟨"RaffleArmyModel", "within", "(III)Z"⟩, prog_13_method_17_code, 3, (some .boolean), 10, 3, 0)
def zq_m176 : zq_I := (⟨"RaffleArmyModel", "readMan", "()V"⟩, prog_13_method_29_code, 3, none, 10, 1, 1)
def zq_m177 : zq_I := (⟨"RaffleArmyModel", "readOnce", "()V"⟩, prog_13_method_30_code, 2, none, 10, 1, 1)
def zq_m178 : zq_I := (⟨"RaffleArmyModel", "all", "(I)V"⟩, prog_13_method_34_code, 3, none, 10, 2, 1)
def zq_m179 : zq_I := (⟨"RaffleArmyModel", "test", "(I)V"⟩, prog_13_method_35_code, 3, none, 10, 2, 1)
def zq_m180 : zq_I := (⟨"RaffleArmyModel", "sums", "(I)V"⟩, prog_13_method_36_code, 3, none, 10, 2, 1)
def zq_m181 : zq_I := (⟨"RaffleArmyModel", "products", "(I)V"⟩, prog_13_method_37_code, 2, none, 10, 2, 1)
def zq_m182 : zq_I := (⟨"RaffleArmyModel", "takePart", "(I)V"⟩, prog_13_method_38_code, 4, none, 10, 2, 1)
def zq_m183 : zq_I := (⟨"RaffleArmyModel", "isSign", "(I)Z"⟩, prog_13_method_11_code, 2, (some .boolean), 10, 2, 1)
def zq_m184 : zq_I := (⟨"RaffleArmyModel", "emit", "(II)V"⟩, prog_13_method_33_code, 3, none, 10, 3, 1)
def zq_m185 : zq_I := (⟨"RaffleArmyModel", "hasSign", "(I)Z"⟩, prog_13_method_14_code, 3, (some .boolean), 10, 2, 1)
def zq_m186 : zq_I := (⟨"RaffleArmyModel", "takeSign", "(I)V"⟩, prog_13_method_13_code, 2, none, 10, 2, 1)
def zq_m187 : zq_I := (⟨"RaffleArmyModel", "war", "()I"⟩, prog_13_method_31_code, 3, (some .int), 10, 1, 1)
def zq_m188 : zq_I := (⟨"RaffleArmyModel", "readWar", "(II)V"⟩, prog_13_method_32_code, 3, none, 10, 3, 1)
def zq_m189 : zq_I := (⟨"RaffleArmyModel", "post", "(II)I"⟩, prog_13_method_61_code, 3, (some .int), 10, 3, 1)
def zq_m190 : zq_I := (⟨"RaffleArmyModel", "isPost", "(I)Z"⟩, prog_13_method_51_code, 2, (some .boolean), 10, 2, 1)
def zq_m191 : zq_I := (⟨"RaffleArmyModel", "laysHeld", "(I)V"⟩, prog_13_method_59_code, 3, none, 10, 2, 1)
def zq_m192 : zq_I := (⟨"RaffleArmyModel", "laysSkills", "()V"⟩, prog_13_method_56_code, 3, none, 10, 1, 1)
def zq_m193 : zq_I := (⟨"RaffleArmyModel", "skillOf", "(II)I"⟩, prog_13_method_55_code, 4, (some .int), 10, 3, 1)
def zq_m194 : zq_I := (⟨"RaffleArmyModel", "laysFacts", "(II)V"⟩, prog_13_method_54_code, 3, none, 10, 3, 1)
def zq_m195 : zq_I := (⟨"RaffleArmyModel", "postOf", "(II)I"⟩, prog_13_method_49_code, 3, (some .int), 10, 3, 1)
def zq_m196 : zq_I := (⟨"RaffleArmyModel", "worthAt", "(I)I"⟩, prog_13_method_39_code, 5, (some .int), 10, 2, 1)
def zq_m197 : zq_I := (⟨"RaffleArmyModel", "both", "(III)I"⟩, prog_13_method_40_code, 3, (some .int), 10, 3, 0)
def zq_m198 : zq_I := (⟨"RaffleArmyModel", "doesObey", "(I)Z"⟩, prog_13_method_57_code, 4, (some .boolean), 10, 2, 1)
def zq_m199 : zq_I := (⟨"RaffleArmyModel", "man", "(II)I"⟩, prog_13_method_62_code, 3, (some .int), 10, 3, 1)
def zq_m200 : zq_I := (⟨"RaffleArmyModel", "isMan", "(I)Z"⟩, prog_13_method_52_code, 2, (some .boolean), 10, 2, 1)
def zq_m201 : zq_I := (⟨"RaffleArmyModel", "postHeldBy", "(II)I"⟩, prog_13_method_53_code, 5, (some .int), 10, 3, 1)
def zq_m202 : zq_I := (⟨"RaffleArmyModel", "skill", "(II)I"⟩, prog_13_method_63_code, 3, (some .int), 10, 3, 1)
def zq_m203 : zq_I := (⟨"RaffleArmyModel", "ours", "()I"⟩, prog_13_method_64_code, 1, (some .int), 10, 1, 1)
def zq_m204 : zq_I := (⟨"RaffleArmyModel", "oursOf", "(I)I"⟩, prog_13_method_60_code, 2, (some .int), 10, 2, 1)
def zq_m205 : zq_I := (⟨"RaffleArmyModel", "oursNow", "()I"⟩, prog_13_method_58_code, 5, (some .int), 10, 1, 1)
def zq_m206 : zq_I := (⟨"RaffleArmyModel", "draw", "(I)Z"⟩, prog_13_method_70_code, 2, (some .boolean), 10, 2, 1)
def zq_m207 : zq_I := (⟨"RaffleArmyModel", "keeps", "()V"⟩, prog_13_method_44_code, 2, none, 10, 1, 1)
def zq_m208 : zq_I := (⟨"RaffleArmyModel", "copies", "(III)V"⟩, prog_13_method_41_code, 5, none, 10, 4, 1)
def zq_m209 : zq_I := (⟨"RaffleArmyModel", "draws", "(I)V"⟩, prog_13_method_69_code, 5, none, 10, 2, 1)
def zq_m210 : zq_I := (⟨"RaffleArmyModel", "drawBelow", "(I)I"⟩, prog_13_method_68_code, 2, (some .int), 10, 2, 1)
def zq_m211 : zq_I := (⟨"RaffleArmyModel", "sell", "(III)Z"⟩, prog_13_method_73_code, 4, (some .boolean), 10, 4, 1)
def zq_m212 : zq_I := (⟨"RaffleArmyModel", "maySell", "(IIII)Z"⟩, prog_13_method_71_code, 5, (some .boolean), 10, 5, 1)
def zq_m213 : zq_I := (⟨"RaffleArmyModel", "sells", "(IIII)V"⟩, prog_13_method_72_code, 7, none, 10, 5, 1)
def zq_m214 : zq_I := (⟨"RaffleArmyModel", "order", "(I)Z"⟩, prog_13_method_74_code, 2, (some .boolean), 10, 2, 1)
def zq_m215 : zq_I := (⟨"RaffleArmyModel", "weeks", "(I)I"⟩, prog_13_method_77_code, 2, (some .int), 10, 2, 1)
def zq_m216 : zq_I := (⟨"RaffleArmyModel", "isEnd", "(I)Z"⟩, prog_13_method_67_code, 2, (some .boolean), 10, 2, 1)
def zq_m217 : zq_I := (⟨"RaffleArmyModel", "cells", "()I"⟩, prog_13_method_48_code, 1, (some .int), 10, 1, 1)
def zq_m218 : zq_I := (⟨"RaffleArmyModel", "isOver", "(I)Z"⟩, prog_13_method_75_code, 2, (some .boolean), 10, 2, 1)
def zq_m219 : zq_I := (⟨"RaffleArmyModel", "passes", "(II)I"⟩, prog_13_method_76_code, 5, (some .int), 10, 3, 1)
def zq_m220 : zq_I := (⟨"RaffleArmyModel", "goesBy", "(III)I"⟩, prog_13_method_65_code, 5, (some .int), 10, 4, 1)
def zq_m221 : zq_I := (⟨"RaffleArmyModel", "bounded", "(I)I"⟩, prog_13_method_66_code, 2, (some .int), 10, 2, 1)
def zq_m222 : zq_I := (⟨"RaffleArmyModel", "undo", "()Z"⟩, prog_13_method_78_code, 1, (some .boolean), 10, 1, 1)
def zq_m223 : zq_I := (⟨"RaffleArmyModel", "judged", "(I)I"⟩, prog_13_method_80_code, 5, (some .int), 10, 2, 1)
def zq_m224 : zq_I := (⟨"RaffleArmyModel", "does", "(I)Z"⟩, prog_13_method_79_code, 5, (some .boolean), 10, 2, 1)
def zq_m225 : zq_I := (⟨"RaffleArmyModel", "first", "()I"⟩, prog_13_method_81_code, 3, (some .int), 10, 1, 1)
def zq_m226 : zq_I := (⟨"RaffleArmyModel", "best", "(I)I"⟩, prog_13_method_85_code, 2, (some .int), 10, 2, 1)
def zq_m227 : zq_I := (⟨"RaffleArmyModel", "goesThroughWays", "()V"⟩, prog_13_method_84_code, 1, none, 10, 1, 1)
def zq_m228 : zq_I := (⟨"RaffleArmyModel", "gives", "(III)V"⟩, prog_13_method_83_code, 5, none, 10, 4, 1)
def zq_m229 : zq_I := (⟨"RaffleArmyModel", "looks", "()V"⟩, prog_13_method_82_code, 3, none, 10, 1, 1)
def zq_m230 : zq_I := (⟨"RaffleArmyModel", "fewer", "()I"⟩, prog_13_method_47_code, 1, (some .int), 10, 1, 1)
def zq_m231 : zq_I := (⟨"RaffleArmyModel", "mean", "()I"⟩, prog_13_method_86_code, 1, (some .int), 10, 1, 1)
def zq_m232 : zq_I := (⟨"RaffleArmyModel", "loss", "()I"⟩, prog_13_method_87_code, 1, (some .int), 10, 1, 1)
def zq_m233 : zq_I := (⟨"RaffleArmyModel", "plan", "(II)I"⟩, prog_13_method_90_code, 10, (some .int), 10, 3, 1)
def zq_m234 : zq_I := (⟨"RaffleArmyModel", "frontsBy", "(II)J"⟩, prog_13_method_88_code, 9, (some .long), 10, 3, 1)
def zq_m235 : zq_I := (⟨"RaffleArmyModel", "turned", "(II)I"⟩, prog_13_method_89_code, 5, (some .int), 10, 2, 0)
def zq_m236 : zq_I := (⟨"RaffleArmyModel", "swaps", "(I)I"⟩, prog_13_method_95_code, 2, (some .int), 10, 2, 1)
def zq_m237 : zq_I := (⟨"RaffleArmyModel", "findSwaps", "()V"⟩, prog_13_method_94_code, 4, none, 10, 1, 1)
def zq_m238 : zq_I := (⟨"RaffleArmyModel", "findLooks", "(I)V"⟩, prog_13_method_92_code, 6, none, 10, 2, 1)
def zq_m239 : zq_I := (⟨"RaffleArmyModel", "likes", "(II)I"⟩, prog_13_method_91_code, 3, (some .int), 10, 3, 1)
def zq_m240 : zq_I := (⟨"RaffleArmyModel", "isInRing", "(I)Z"⟩, prog_13_method_93_code, 4, (some .boolean), 10, 2, 1)
def zq_m241 : zq_I := (⟨"RaffleArmyModel", "leave", "()I"⟩, prog_13_method_96_code, 3, (some .int), 10, 1, 1)
def zq_m242 : zq_I := (⟨"RaffleArmyModel", "pool", "(I)I"⟩, prog_13_method_100_code, 2, (some .int), 10, 2, 1)
def zq_m243 : zq_I := (⟨"RaffleArmyModel", "arePooled", "(I)Z"⟩, prog_13_method_99_code, 4, (some .boolean), 10, 2, 1)
def zq_m244 : zq_I := (⟨"RaffleArmyModel", "poolOf", "(I)I"⟩, prog_13_method_98_code, 4, (some .int), 10, 2, 1)
def zq_m245 : zq_I := (⟨"RaffleArmyModel", "pools", "(III)V"⟩, prog_13_method_97_code, 6, none, 10, 4, 1)
def zq_m246 : zq_I := (⟨"RaffleArmyModel", "share", "(II)I"⟩, prog_13_method_103_code, 7, (some .int), 10, 3, 1)
def zq_m247 : zq_I := (⟨"RaffleArmyModel", "bits", "(I)I"⟩, prog_13_method_101_code, 3, (some .int), 10, 1, 0)
def zq_m248 : zq_I := (⟨"RaffleArmyModel", "orders0", "(I)J"⟩, prog_13_method_102_code, 4, (some .long), 10, 1, 0)
def zq_m249 : zq_I := (⟨"RaffleArmyModel", "tell", "(II)Z"⟩, prog_13_method_104_code, 3, (some .boolean), 10, 3, 1)
def zq_m250 : zq_I := (⟨"RaffleArmyModel", "fair", "(II)I"⟩, prog_13_method_108_code, 3, (some .int), 10, 3, 1)
def zq_m251 : zq_I := (⟨"RaffleArmyModel", "toldOf", "(II)I"⟩, prog_13_method_105_code, 5, (some .int), 10, 3, 1)
def zq_m252 : zq_I := (⟨"RaffleArmyModel", "fairBy", "(III)I"⟩, prog_13_method_106_code, 13, (some .int), 10, 4, 1)
def zq_m253 : zq_I := (⟨"RaffleArmyModel", "millionths", "(JJ)I"⟩, prog_13_method_107_code, 8, (some .int), 10, 2, 0)
def zq_m254 : zq_I := (⟨"RaffleArmyModel", "more", "(III)I"⟩, prog_13_method_109_code, 5, (some .int), 10, 4, 1)
def zq_m255 : zq_I := (⟨"RaffleArmyModel", "see", "(I)Z"⟩, prog_13_method_110_code, 2, (some .boolean), 10, 2, 1)
def zq_m256 : zq_I := (⟨"RaffleArmyModel", "orders", "(I)I"⟩, prog_13_method_113_code, 4, (some .int), 10, 2, 1)
def zq_m257 : zq_I := (⟨"RaffleArmyModel", "laysGoes", "()V"⟩, prog_13_method_112_code, 3, none, 10, 1, 1)
def zq_m258 : zq_I := (⟨"RaffleArmyModel", "rowsFrom", "(III)V"⟩, prog_13_method_111_code, 6, none, 10, 4, 1)
def zq_m259 : zq_I := (⟨"RaffleArmyModel", "putOff", "(I)I"⟩, prog_13_method_116_code, 5, (some .int), 10, 2, 1)
def zq_m260 : zq_I := (⟨"RaffleArmyModel", "bestOff", "(II)I"⟩, prog_13_method_115_code, 5, (some .int), 10, 3, 1)
def zq_m261 : zq_I := (⟨"RaffleArmyModel", "offBy", "(III)I"⟩, prog_13_method_114_code, 5, (some .int), 10, 4, 1)
def zq_m262 : zq_I := (⟨"RaffleArmyModel", "rests", "(III)I"⟩, prog_13_method_118_code, 10, (some .int), 10, 4, 1)
def zq_m263 : zq_I := (⟨"RaffleArmyModel", "wayBy", "(IIII)I"⟩, prog_13_method_117_code, 5, (some .int), 10, 5, 1)
def zq_m264 : zq_I := (⟨"RaffleArmyModel", "years", "(III)I"⟩, prog_13_method_119_code, 10, (some .int), 10, 4, 1)
def zq_m265 : zq_I := (⟨"RaffleArmyModel", "mark", "(IZ)Z"⟩, prog_13_method_120_code, 3, (some .boolean), 10, 3, 1)
def zq_m266 : zq_I := (⟨"RaffleArmyModel", "count", "(I)I"⟩, prog_13_method_121_code, 4, (some .int), 10, 2, 1)
def zq_MT0 : List zq_I := [zq_m0, zq_m1, zq_m2, zq_m3, zq_m4, zq_m5, zq_m6, zq_m7, zq_m8, zq_m9, zq_m10, zq_m11, zq_m12, zq_m13, zq_m14, zq_m15]
def zq_MT1 : List zq_I := [zq_m16, zq_m17, zq_m18, zq_m19, zq_m20, zq_m21, zq_m22, zq_m23, zq_m24, zq_m25, zq_m26, zq_m27, zq_m28, zq_m29, zq_m30, zq_m31]
def zq_MT2 : List zq_I := [zq_m32, zq_m33, zq_m34, zq_m35, zq_m36, zq_m37, zq_m38, zq_m39, zq_m40, zq_m41, zq_m42, zq_m43, zq_m44, zq_m45, zq_m46, zq_m47]
def zq_MT3 : List zq_I := [zq_m48, zq_m49, zq_m50, zq_m51, zq_m52, zq_m53, zq_m54, zq_m55, zq_m56, zq_m57, zq_m58, zq_m59, zq_m60, zq_m61, zq_m62, zq_m63]
def zq_MT4 : List zq_I := [zq_m64, zq_m65, zq_m66, zq_m67, zq_m68, zq_m69, zq_m70, zq_m71, zq_m72, zq_m73, zq_m74, zq_m75, zq_m76, zq_m77, zq_m78, zq_m79]
def zq_MT5 : List zq_I := [zq_m80, zq_m81, zq_m82, zq_m83, zq_m84, zq_m85, zq_m86, zq_m87, zq_m88, zq_m89, zq_m90, zq_m91, zq_m92, zq_m93, zq_m94, zq_m95]
def zq_MT6 : List zq_I := [zq_m96, zq_m97, zq_m98, zq_m99, zq_m100, zq_m101, zq_m102, zq_m103, zq_m104, zq_m105, zq_m106, zq_m107, zq_m108, zq_m109, zq_m110, zq_m111]
def zq_MT7 : List zq_I := [zq_m112, zq_m113, zq_m114, zq_m115, zq_m116, zq_m117, zq_m118, zq_m119, zq_m120, zq_m121, zq_m122, zq_m123, zq_m124, zq_m125, zq_m126, zq_m127]
def zq_MT8 : List zq_I := [zq_m128, zq_m129, zq_m130, zq_m131, zq_m132, zq_m133, zq_m134, zq_m135, zq_m136, zq_m137, zq_m138, zq_m139, zq_m140, zq_m141, zq_m142, zq_m143]
def zq_MT9 : List zq_I := [zq_m144, zq_m145, zq_m146, zq_m147, zq_m148, zq_m149, zq_m150, zq_m151, zq_m152, zq_m153, zq_m154, zq_m155, zq_m156, zq_m157, zq_m158, zq_m159]
def zq_MT10 : List zq_I := [zq_m160, zq_m161, zq_m162, zq_m163, zq_m164, zq_m165, zq_m166, zq_m167, zq_m168, zq_m169, zq_m170, zq_m171, zq_m172, zq_m173, zq_m174, zq_m175]
def zq_MT11 : List zq_I := [zq_m176, zq_m177, zq_m178, zq_m179, zq_m180, zq_m181, zq_m182, zq_m183, zq_m184, zq_m185, zq_m186, zq_m187, zq_m188, zq_m189, zq_m190, zq_m191]
def zq_MT12 : List zq_I := [zq_m192, zq_m193, zq_m194, zq_m195, zq_m196, zq_m197, zq_m198, zq_m199, zq_m200, zq_m201, zq_m202, zq_m203, zq_m204, zq_m205, zq_m206, zq_m207]
def zq_MT13 : List zq_I := [zq_m208, zq_m209, zq_m210, zq_m211, zq_m212, zq_m213, zq_m214, zq_m215, zq_m216, zq_m217, zq_m218, zq_m219, zq_m220, zq_m221, zq_m222, zq_m223]
def zq_MT14 : List zq_I := [zq_m224, zq_m225, zq_m226, zq_m227, zq_m228, zq_m229, zq_m230, zq_m231, zq_m232, zq_m233, zq_m234, zq_m235, zq_m236, zq_m237, zq_m238, zq_m239]
def zq_MT15 : List zq_I := [zq_m240, zq_m241, zq_m242, zq_m243, zq_m244, zq_m245, zq_m246, zq_m247, zq_m248, zq_m249, zq_m250, zq_m251, zq_m252, zq_m253, zq_m254, zq_m255]
def zq_MT16 : List zq_I := [zq_m256, zq_m257, zq_m258, zq_m259, zq_m260, zq_m261, zq_m262, zq_m263, zq_m264, zq_m265, zq_m266]
def zq_MT : List zq_I := zq_MT0 ++ (zq_MT1 ++ (zq_MT2 ++ (zq_MT3 ++ (zq_MT4 ++ (zq_MT5 ++ (zq_MT6 ++ (zq_MT7 ++ (zq_MT8 ++ (zq_MT9 ++ (zq_MT10 ++ (zq_MT11 ++ (zq_MT12 ++ (zq_MT13 ++ (zq_MT14 ++ (zq_MT15 ++ (zq_MT16))))))))))))))))
/-- the word of a method's code is among the tables -/
def zq_cw (q : zq_I) : Cond := .code q.1 q.2.1 q.2.2.1 q.2.2.2.1
set_option maxRecDepth 20000 in
theorem zq_c0 : zq_cw zq_m0 ∈ zq_WG := List.mem_filter.mpr ⟨List.mem_append_right _ (List.mem_of_getElem? (i := 24) rfl), rfl⟩
set_option maxRecDepth 20000 in
theorem zq_c1 : zq_cw zq_m1 ∈ zq_WG := List.mem_filter.mpr ⟨List.mem_append_right _ (List.mem_of_getElem? (i := 32) rfl), rfl⟩
set_option maxRecDepth 20000 in
theorem zq_c2 : zq_cw zq_m2 ∈ zq_WG := List.mem_filter.mpr ⟨List.mem_append_right _ (List.mem_of_getElem? (i := 81) rfl), rfl⟩
set_option maxRecDepth 20000 in
theorem zq_c3 : zq_cw zq_m3 ∈ zq_WG := List.mem_filter.mpr ⟨List.mem_append_right _ (List.mem_of_getElem? (i := 117) rfl), rfl⟩
set_option maxRecDepth 20000 in
theorem zq_c4 : zq_cw zq_m4 ∈ zq_WG := List.mem_filter.mpr ⟨List.mem_append_right _ (List.mem_of_getElem? (i := 144) rfl), rfl⟩
set_option maxRecDepth 20000 in
theorem zq_c5 : zq_cw zq_m5 ∈ zq_WG := List.mem_filter.mpr ⟨List.mem_append_right _ (List.mem_of_getElem? (i := 189) rfl), rfl⟩
set_option maxRecDepth 20000 in
theorem zq_c6 : zq_cw zq_m6 ∈ zq_WG := List.mem_filter.mpr ⟨List.mem_append_right _ (List.mem_of_getElem? (i := 212) rfl), rfl⟩
set_option maxRecDepth 20000 in
theorem zq_c7 : zq_cw zq_m7 ∈ zq_WG := List.mem_filter.mpr ⟨List.mem_append_right _ (List.mem_of_getElem? (i := 227) rfl), rfl⟩
set_option maxRecDepth 20000 in
theorem zq_c8 : zq_cw zq_m8 ∈ zq_WG := List.mem_filter.mpr ⟨List.mem_append_right _ (List.mem_of_getElem? (i := 233) rfl), rfl⟩
set_option maxRecDepth 20000 in
theorem zq_c9 : zq_cw zq_m9 ∈ zq_WG := List.mem_filter.mpr ⟨List.mem_append_right _ (List.mem_of_getElem? (i := 342) rfl), rfl⟩
set_option maxRecDepth 20000 in
theorem zq_c10 : zq_cw zq_m10 ∈ zq_WG := List.mem_filter.mpr ⟨List.mem_append_right _ (List.mem_of_getElem? (i := 364) rfl), rfl⟩
set_option maxRecDepth 20000 in
theorem zq_c11 : zq_cw zq_m11 ∈ zq_WG := List.mem_filter.mpr ⟨List.mem_append_right _ (List.mem_of_getElem? (i := 367) rfl), rfl⟩
set_option maxRecDepth 20000 in
theorem zq_c12 : zq_cw zq_m12 ∈ zq_WG := List.mem_filter.mpr ⟨List.mem_append_right _ (List.mem_of_getElem? (i := 370) rfl), rfl⟩
set_option maxRecDepth 20000 in
theorem zq_c13 : zq_cw zq_m13 ∈ zq_WG := List.mem_filter.mpr ⟨List.mem_append_right _ (List.mem_of_getElem? (i := 429) rfl), rfl⟩
set_option maxRecDepth 20000 in
theorem zq_c14 : zq_cw zq_m14 ∈ zq_WG := List.mem_filter.mpr ⟨List.mem_append_right _ (List.mem_of_getElem? (i := 433) rfl), rfl⟩
set_option maxRecDepth 20000 in
theorem zq_c15 : zq_cw zq_m15 ∈ zq_WG := List.mem_filter.mpr ⟨List.mem_append_right _ (List.mem_of_getElem? (i := 438) rfl), rfl⟩
set_option maxRecDepth 20000 in
theorem zq_c16 : zq_cw zq_m16 ∈ zq_WG := List.mem_filter.mpr ⟨List.mem_append_right _ (List.mem_of_getElem? (i := 442) rfl), rfl⟩
set_option maxRecDepth 20000 in
theorem zq_c17 : zq_cw zq_m17 ∈ zq_WG := List.mem_filter.mpr ⟨List.mem_append_right _ (List.mem_of_getElem? (i := 446) rfl), rfl⟩
set_option maxRecDepth 20000 in
theorem zq_c18 : zq_cw zq_m18 ∈ zq_WG := List.mem_filter.mpr ⟨List.mem_append_right _ (List.mem_of_getElem? (i := 450) rfl), rfl⟩
set_option maxRecDepth 20000 in
theorem zq_c19 : zq_cw zq_m19 ∈ zq_WG := List.mem_filter.mpr ⟨List.mem_append_right _ (List.mem_of_getElem? (i := 455) rfl), rfl⟩
set_option maxRecDepth 20000 in
theorem zq_c20 : zq_cw zq_m20 ∈ zq_WG := List.mem_filter.mpr ⟨List.mem_append_right _ (List.mem_of_getElem? (i := 459) rfl), rfl⟩
set_option maxRecDepth 20000 in
theorem zq_c21 : zq_cw zq_m21 ∈ zq_WG := List.mem_filter.mpr ⟨List.mem_append_right _ (List.mem_of_getElem? (i := 463) rfl), rfl⟩
set_option maxRecDepth 20000 in
theorem zq_c22 : zq_cw zq_m22 ∈ zq_WG := List.mem_filter.mpr ⟨List.mem_append_right _ (List.mem_of_getElem? (i := 466) rfl), rfl⟩
set_option maxRecDepth 20000 in
theorem zq_c23 : zq_cw zq_m23 ∈ zq_WG := List.mem_filter.mpr ⟨List.mem_append_right _ (List.mem_of_getElem? (i := 469) rfl), rfl⟩
set_option maxRecDepth 20000 in
theorem zq_c24 : zq_cw zq_m24 ∈ zq_WG := List.mem_filter.mpr ⟨List.mem_append_right _ (List.mem_of_getElem? (i := 475) rfl), rfl⟩
set_option maxRecDepth 20000 in
theorem zq_c25 : zq_cw zq_m25 ∈ zq_WG := List.mem_filter.mpr ⟨List.mem_append_right _ (List.mem_of_getElem? (i := 481) rfl), rfl⟩
set_option maxRecDepth 20000 in
theorem zq_c26 : zq_cw zq_m26 ∈ zq_WG := List.mem_filter.mpr ⟨List.mem_append_right _ (List.mem_of_getElem? (i := 485) rfl), rfl⟩
set_option maxRecDepth 20000 in
theorem zq_c27 : zq_cw zq_m27 ∈ zq_WG := List.mem_filter.mpr ⟨List.mem_append_right _ (List.mem_of_getElem? (i := 490) rfl), rfl⟩
set_option maxRecDepth 20000 in
theorem zq_c28 : zq_cw zq_m28 ∈ zq_WG := List.mem_filter.mpr ⟨List.mem_append_right _ (List.mem_of_getElem? (i := 494) rfl), rfl⟩
set_option maxRecDepth 20000 in
theorem zq_c29 : zq_cw zq_m29 ∈ zq_WG := List.mem_filter.mpr ⟨List.mem_append_right _ (List.mem_of_getElem? (i := 497) rfl), rfl⟩
set_option maxRecDepth 20000 in
theorem zq_c30 : zq_cw zq_m30 ∈ zq_WG := List.mem_filter.mpr ⟨List.mem_append_right _ (List.mem_of_getElem? (i := 501) rfl), rfl⟩
set_option maxRecDepth 20000 in
theorem zq_c31 : zq_cw zq_m31 ∈ zq_WG := List.mem_filter.mpr ⟨List.mem_append_right _ (List.mem_of_getElem? (i := 505) rfl), rfl⟩
set_option maxRecDepth 20000 in
theorem zq_c32 : zq_cw zq_m32 ∈ zq_WG := List.mem_filter.mpr ⟨List.mem_append_right _ (List.mem_of_getElem? (i := 509) rfl), rfl⟩
set_option maxRecDepth 20000 in
theorem zq_c33 : zq_cw zq_m33 ∈ zq_WG := List.mem_filter.mpr ⟨List.mem_append_right _ (List.mem_of_getElem? (i := 517) rfl), rfl⟩
set_option maxRecDepth 20000 in
theorem zq_c34 : zq_cw zq_m34 ∈ zq_WG := List.mem_filter.mpr ⟨List.mem_append_right _ (List.mem_of_getElem? (i := 521) rfl), rfl⟩
set_option maxRecDepth 20000 in
theorem zq_c35 : zq_cw zq_m35 ∈ zq_WG := List.mem_filter.mpr ⟨List.mem_append_right _ (List.mem_of_getElem? (i := 524) rfl), rfl⟩
set_option maxRecDepth 20000 in
theorem zq_c36 : zq_cw zq_m36 ∈ zq_WG := List.mem_filter.mpr ⟨List.mem_append_right _ (List.mem_of_getElem? (i := 530) rfl), rfl⟩
set_option maxRecDepth 20000 in
theorem zq_c37 : zq_cw zq_m37 ∈ zq_WG := List.mem_filter.mpr ⟨List.mem_append_right _ (List.mem_of_getElem? (i := 534) rfl), rfl⟩
set_option maxRecDepth 20000 in
theorem zq_c38 : zq_cw zq_m38 ∈ zq_WG := List.mem_filter.mpr ⟨List.mem_append_right _ (List.mem_of_getElem? (i := 538) rfl), rfl⟩
set_option maxRecDepth 20000 in
theorem zq_c39 : zq_cw zq_m39 ∈ zq_WG := List.mem_filter.mpr ⟨List.mem_append_right _ (List.mem_of_getElem? (i := 544) rfl), rfl⟩
set_option maxRecDepth 20000 in
theorem zq_c40 : zq_cw zq_m40 ∈ zq_WG := List.mem_filter.mpr ⟨List.mem_append_right _ (List.mem_of_getElem? (i := 555) rfl), rfl⟩
set_option maxRecDepth 20000 in
theorem zq_c41 : zq_cw zq_m41 ∈ zq_WG := List.mem_filter.mpr ⟨List.mem_append_right _ (List.mem_of_getElem? (i := 559) rfl), rfl⟩
set_option maxRecDepth 20000 in
theorem zq_c42 : zq_cw zq_m42 ∈ zq_WG := List.mem_filter.mpr ⟨List.mem_append_right _ (List.mem_of_getElem? (i := 563) rfl), rfl⟩
set_option maxRecDepth 20000 in
theorem zq_c43 : zq_cw zq_m43 ∈ zq_WG := List.mem_filter.mpr ⟨List.mem_append_right _ (List.mem_of_getElem? (i := 567) rfl), rfl⟩
set_option maxRecDepth 20000 in
theorem zq_c44 : zq_cw zq_m44 ∈ zq_WG := List.mem_filter.mpr ⟨List.mem_append_right _ (List.mem_of_getElem? (i := 571) rfl), rfl⟩
set_option maxRecDepth 20000 in
theorem zq_c45 : zq_cw zq_m45 ∈ zq_WG := List.mem_filter.mpr ⟨List.mem_append_right _ (List.mem_of_getElem? (i := 575) rfl), rfl⟩
set_option maxRecDepth 20000 in
theorem zq_c46 : zq_cw zq_m46 ∈ zq_WG := List.mem_filter.mpr ⟨List.mem_append_right _ (List.mem_of_getElem? (i := 584) rfl), rfl⟩
set_option maxRecDepth 20000 in
theorem zq_c47 : zq_cw zq_m47 ∈ zq_WG := List.mem_filter.mpr ⟨List.mem_append_right _ (List.mem_of_getElem? (i := 594) rfl), rfl⟩
set_option maxRecDepth 20000 in
theorem zq_c48 : zq_cw zq_m48 ∈ zq_WG := List.mem_filter.mpr ⟨List.mem_append_right _ (List.mem_of_getElem? (i := 600) rfl), rfl⟩
set_option maxRecDepth 20000 in
theorem zq_c49 : zq_cw zq_m49 ∈ zq_WG := List.mem_filter.mpr ⟨List.mem_append_right _ (List.mem_of_getElem? (i := 610) rfl), rfl⟩
set_option maxRecDepth 20000 in
theorem zq_c50 : zq_cw zq_m50 ∈ zq_WG := List.mem_filter.mpr ⟨List.mem_append_right _ (List.mem_of_getElem? (i := 614) rfl), rfl⟩
set_option maxRecDepth 20000 in
theorem zq_c51 : zq_cw zq_m51 ∈ zq_WG := List.mem_filter.mpr ⟨List.mem_append_right _ (List.mem_of_getElem? (i := 618) rfl), rfl⟩
set_option maxRecDepth 20000 in
theorem zq_c52 : zq_cw zq_m52 ∈ zq_WG := List.mem_filter.mpr ⟨List.mem_append_right _ (List.mem_of_getElem? (i := 623) rfl), rfl⟩
set_option maxRecDepth 20000 in
theorem zq_c53 : zq_cw zq_m53 ∈ zq_WG := List.mem_filter.mpr ⟨List.mem_append_right _ (List.mem_of_getElem? (i := 628) rfl), rfl⟩
set_option maxRecDepth 20000 in
theorem zq_c54 : zq_cw zq_m54 ∈ zq_WG := List.mem_filter.mpr ⟨List.mem_append_right _ (List.mem_of_getElem? (i := 631) rfl), rfl⟩
set_option maxRecDepth 20000 in
theorem zq_c55 : zq_cw zq_m55 ∈ zq_WG := List.mem_filter.mpr ⟨List.mem_append_right _ (List.mem_of_getElem? (i := 634) rfl), rfl⟩
set_option maxRecDepth 20000 in
theorem zq_c56 : zq_cw zq_m56 ∈ zq_WG := List.mem_filter.mpr ⟨List.mem_append_right _ (List.mem_of_getElem? (i := 637) rfl), rfl⟩
set_option maxRecDepth 20000 in
theorem zq_c57 : zq_cw zq_m57 ∈ zq_WG := List.mem_filter.mpr ⟨List.mem_append_right _ (List.mem_of_getElem? (i := 640) rfl), rfl⟩
set_option maxRecDepth 20000 in
theorem zq_c58 : zq_cw zq_m58 ∈ zq_WG := List.mem_filter.mpr ⟨List.mem_append_right _ (List.mem_of_getElem? (i := 644) rfl), rfl⟩
set_option maxRecDepth 20000 in
theorem zq_c59 : zq_cw zq_m59 ∈ zq_WG := List.mem_filter.mpr ⟨List.mem_append_right _ (List.mem_of_getElem? (i := 648) rfl), rfl⟩
set_option maxRecDepth 20000 in
theorem zq_c60 : zq_cw zq_m60 ∈ zq_WG := List.mem_filter.mpr ⟨List.mem_append_right _ (List.mem_of_getElem? (i := 652) rfl), rfl⟩
set_option maxRecDepth 20000 in
theorem zq_c61 : zq_cw zq_m61 ∈ zq_WG := List.mem_filter.mpr ⟨List.mem_append_right _ (List.mem_of_getElem? (i := 656) rfl), rfl⟩
set_option maxRecDepth 20000 in
theorem zq_c62 : zq_cw zq_m62 ∈ zq_WG := List.mem_filter.mpr ⟨List.mem_append_right _ (List.mem_of_getElem? (i := 660) rfl), rfl⟩
set_option maxRecDepth 20000 in
theorem zq_c63 : zq_cw zq_m63 ∈ zq_WG := List.mem_filter.mpr ⟨List.mem_append_right _ (List.mem_of_getElem? (i := 665) rfl), rfl⟩
set_option maxRecDepth 20000 in
theorem zq_c64 : zq_cw zq_m64 ∈ zq_WG := List.mem_filter.mpr ⟨List.mem_append_right _ (List.mem_of_getElem? (i := 673) rfl), rfl⟩
set_option maxRecDepth 20000 in
theorem zq_c65 : zq_cw zq_m65 ∈ zq_WG := List.mem_filter.mpr ⟨List.mem_append_right _ (List.mem_of_getElem? (i := 677) rfl), rfl⟩
set_option maxRecDepth 20000 in
theorem zq_c66 : zq_cw zq_m66 ∈ zq_WG := List.mem_filter.mpr ⟨List.mem_append_right _ (List.mem_of_getElem? (i := 680) rfl), rfl⟩
set_option maxRecDepth 20000 in
theorem zq_c67 : zq_cw zq_m67 ∈ zq_WG := List.mem_filter.mpr ⟨List.mem_append_right _ (List.mem_of_getElem? (i := 690) rfl), rfl⟩
set_option maxRecDepth 20000 in
theorem zq_c68 : zq_cw zq_m68 ∈ zq_WG := List.mem_filter.mpr ⟨List.mem_append_right _ (List.mem_of_getElem? (i := 694) rfl), rfl⟩
set_option maxRecDepth 20000 in
theorem zq_c69 : zq_cw zq_m69 ∈ zq_WG := List.mem_filter.mpr ⟨List.mem_append_right _ (List.mem_of_getElem? (i := 699) rfl), rfl⟩
set_option maxRecDepth 20000 in
theorem zq_c70 : zq_cw zq_m70 ∈ zq_WG := List.mem_filter.mpr ⟨List.mem_append_right _ (List.mem_of_getElem? (i := 703) rfl), rfl⟩
set_option maxRecDepth 20000 in
theorem zq_c71 : zq_cw zq_m71 ∈ zq_WG := List.mem_filter.mpr ⟨List.mem_append_right _ (List.mem_of_getElem? (i := 707) rfl), rfl⟩
set_option maxRecDepth 20000 in
theorem zq_c72 : zq_cw zq_m72 ∈ zq_WG := List.mem_filter.mpr ⟨List.mem_append_right _ (List.mem_of_getElem? (i := 712) rfl), rfl⟩
set_option maxRecDepth 20000 in
theorem zq_c73 : zq_cw zq_m73 ∈ zq_WG := List.mem_filter.mpr ⟨List.mem_append_right _ (List.mem_of_getElem? (i := 717) rfl), rfl⟩
set_option maxRecDepth 20000 in
theorem zq_c74 : zq_cw zq_m74 ∈ zq_WG := List.mem_filter.mpr ⟨List.mem_append_right _ (List.mem_of_getElem? (i := 721) rfl), rfl⟩
set_option maxRecDepth 20000 in
theorem zq_c75 : zq_cw zq_m75 ∈ zq_WG := List.mem_filter.mpr ⟨List.mem_append_right _ (List.mem_of_getElem? (i := 726) rfl), rfl⟩
set_option maxRecDepth 20000 in
theorem zq_c76 : zq_cw zq_m76 ∈ zq_WG := List.mem_filter.mpr ⟨List.mem_append_right _ (List.mem_of_getElem? (i := 730) rfl), rfl⟩
set_option maxRecDepth 20000 in
theorem zq_c77 : zq_cw zq_m77 ∈ zq_WG := List.mem_filter.mpr ⟨List.mem_append_right _ (List.mem_of_getElem? (i := 735) rfl), rfl⟩
set_option maxRecDepth 20000 in
theorem zq_c78 : zq_cw zq_m78 ∈ zq_WG := List.mem_filter.mpr ⟨List.mem_append_right _ (List.mem_of_getElem? (i := 740) rfl), rfl⟩
set_option maxRecDepth 20000 in
theorem zq_c79 : zq_cw zq_m79 ∈ zq_WG := List.mem_filter.mpr ⟨List.mem_append_right _ (List.mem_of_getElem? (i := 745) rfl), rfl⟩
set_option maxRecDepth 20000 in
theorem zq_c80 : zq_cw zq_m80 ∈ zq_WG := List.mem_filter.mpr ⟨List.mem_append_right _ (List.mem_of_getElem? (i := 749) rfl), rfl⟩
set_option maxRecDepth 20000 in
theorem zq_c81 : zq_cw zq_m81 ∈ zq_WG := List.mem_filter.mpr ⟨List.mem_append_right _ (List.mem_of_getElem? (i := 753) rfl), rfl⟩
set_option maxRecDepth 20000 in
theorem zq_c82 : zq_cw zq_m82 ∈ zq_WG := List.mem_filter.mpr ⟨List.mem_append_right _ (List.mem_of_getElem? (i := 757) rfl), rfl⟩
set_option maxRecDepth 20000 in
theorem zq_c83 : zq_cw zq_m83 ∈ zq_WG := List.mem_filter.mpr ⟨List.mem_append_right _ (List.mem_of_getElem? (i := 762) rfl), rfl⟩
set_option maxRecDepth 20000 in
theorem zq_c84 : zq_cw zq_m84 ∈ zq_WG := List.mem_filter.mpr ⟨List.mem_append_right _ (List.mem_of_getElem? (i := 771) rfl), rfl⟩
set_option maxRecDepth 20000 in
theorem zq_c85 : zq_cw zq_m85 ∈ zq_WG := List.mem_filter.mpr ⟨List.mem_append_right _ (List.mem_of_getElem? (i := 775) rfl), rfl⟩
set_option maxRecDepth 20000 in
theorem zq_c86 : zq_cw zq_m86 ∈ zq_WG := List.mem_filter.mpr ⟨List.mem_append_right _ (List.mem_of_getElem? (i := 782) rfl), rfl⟩
set_option maxRecDepth 20000 in
theorem zq_c87 : zq_cw zq_m87 ∈ zq_WG := List.mem_filter.mpr ⟨List.mem_append_right _ (List.mem_of_getElem? (i := 786) rfl), rfl⟩
set_option maxRecDepth 20000 in
theorem zq_c88 : zq_cw zq_m88 ∈ zq_WG := List.mem_filter.mpr ⟨List.mem_append_right _ (List.mem_of_getElem? (i := 790) rfl), rfl⟩
set_option maxRecDepth 20000 in
theorem zq_c89 : zq_cw zq_m89 ∈ zq_WG := List.mem_filter.mpr ⟨List.mem_append_right _ (List.mem_of_getElem? (i := 794) rfl), rfl⟩
set_option maxRecDepth 20000 in
theorem zq_c90 : zq_cw zq_m90 ∈ zq_WG := List.mem_filter.mpr ⟨List.mem_append_right _ (List.mem_of_getElem? (i := 798) rfl), rfl⟩
set_option maxRecDepth 20000 in
theorem zq_c91 : zq_cw zq_m91 ∈ zq_WG := List.mem_filter.mpr ⟨List.mem_append_right _ (List.mem_of_getElem? (i := 802) rfl), rfl⟩
set_option maxRecDepth 20000 in
theorem zq_c92 : zq_cw zq_m92 ∈ zq_WG := List.mem_filter.mpr ⟨List.mem_append_right _ (List.mem_of_getElem? (i := 807) rfl), rfl⟩
set_option maxRecDepth 20000 in
theorem zq_c93 : zq_cw zq_m93 ∈ zq_WG := List.mem_filter.mpr ⟨List.mem_append_right _ (List.mem_of_getElem? (i := 810) rfl), rfl⟩
set_option maxRecDepth 20000 in
theorem zq_c94 : zq_cw zq_m94 ∈ zq_WG := List.mem_filter.mpr ⟨List.mem_append_right _ (List.mem_of_getElem? (i := 815) rfl), rfl⟩
set_option maxRecDepth 20000 in
theorem zq_c95 : zq_cw zq_m95 ∈ zq_WG := List.mem_filter.mpr ⟨List.mem_append_right _ (List.mem_of_getElem? (i := 819) rfl), rfl⟩
set_option maxRecDepth 20000 in
theorem zq_c96 : zq_cw zq_m96 ∈ zq_WG := List.mem_filter.mpr ⟨List.mem_append_right _ (List.mem_of_getElem? (i := 823) rfl), rfl⟩
set_option maxRecDepth 20000 in
theorem zq_c97 : zq_cw zq_m97 ∈ zq_WG := List.mem_filter.mpr ⟨List.mem_append_right _ (List.mem_of_getElem? (i := 827) rfl), rfl⟩
set_option maxRecDepth 20000 in
theorem zq_c98 : zq_cw zq_m98 ∈ zq_WG := List.mem_filter.mpr ⟨List.mem_append_right _ (List.mem_of_getElem? (i := 831) rfl), rfl⟩
set_option maxRecDepth 20000 in
theorem zq_c99 : zq_cw zq_m99 ∈ zq_WG := List.mem_filter.mpr ⟨List.mem_append_right _ (List.mem_of_getElem? (i := 842) rfl), rfl⟩
set_option maxRecDepth 20000 in
theorem zq_c100 : zq_cw zq_m100 ∈ zq_WG := List.mem_filter.mpr ⟨List.mem_append_right _ (List.mem_of_getElem? (i := 846) rfl), rfl⟩
set_option maxRecDepth 20000 in
theorem zq_c101 : zq_cw zq_m101 ∈ zq_WG := List.mem_filter.mpr ⟨List.mem_append_right _ (List.mem_of_getElem? (i := 850) rfl), rfl⟩
set_option maxRecDepth 20000 in
theorem zq_c102 : zq_cw zq_m102 ∈ zq_WG := List.mem_filter.mpr ⟨List.mem_append_right _ (List.mem_of_getElem? (i := 855) rfl), rfl⟩
set_option maxRecDepth 20000 in
theorem zq_c103 : zq_cw zq_m103 ∈ zq_WG := List.mem_filter.mpr ⟨List.mem_append_right _ (List.mem_of_getElem? (i := 859) rfl), rfl⟩
set_option maxRecDepth 20000 in
theorem zq_c104 : zq_cw zq_m104 ∈ zq_WG := List.mem_filter.mpr ⟨List.mem_append_right _ (List.mem_of_getElem? (i := 866) rfl), rfl⟩
set_option maxRecDepth 20000 in
theorem zq_c105 : zq_cw zq_m105 ∈ zq_WG := List.mem_filter.mpr ⟨List.mem_append_right _ (List.mem_of_getElem? (i := 870) rfl), rfl⟩
set_option maxRecDepth 20000 in
theorem zq_c106 : zq_cw zq_m106 ∈ zq_WG := List.mem_filter.mpr ⟨List.mem_append_right _ (List.mem_of_getElem? (i := 875) rfl), rfl⟩
set_option maxRecDepth 20000 in
theorem zq_c107 : zq_cw zq_m107 ∈ zq_WG := List.mem_filter.mpr ⟨List.mem_append_right _ (List.mem_of_getElem? (i := 879) rfl), rfl⟩
set_option maxRecDepth 20000 in
theorem zq_c108 : zq_cw zq_m108 ∈ zq_WG := List.mem_filter.mpr ⟨List.mem_append_right _ (List.mem_of_getElem? (i := 883) rfl), rfl⟩
set_option maxRecDepth 20000 in
theorem zq_c109 : zq_cw zq_m109 ∈ zq_WG := List.mem_filter.mpr ⟨List.mem_append_right _ (List.mem_of_getElem? (i := 886) rfl), rfl⟩
set_option maxRecDepth 20000 in
theorem zq_c110 : zq_cw zq_m110 ∈ zq_WG := List.mem_filter.mpr ⟨List.mem_append_right _ (List.mem_of_getElem? (i := 891) rfl), rfl⟩
set_option maxRecDepth 20000 in
theorem zq_c111 : zq_cw zq_m111 ∈ zq_WG := List.mem_filter.mpr ⟨List.mem_append_right _ (List.mem_of_getElem? (i := 895) rfl), rfl⟩
set_option maxRecDepth 20000 in
theorem zq_c112 : zq_cw zq_m112 ∈ zq_WG := List.mem_filter.mpr ⟨List.mem_append_right _ (List.mem_of_getElem? (i := 898) rfl), rfl⟩
set_option maxRecDepth 20000 in
theorem zq_c113 : zq_cw zq_m113 ∈ zq_WG := List.mem_filter.mpr ⟨List.mem_append_right _ (List.mem_of_getElem? (i := 903) rfl), rfl⟩
set_option maxRecDepth 20000 in
theorem zq_c114 : zq_cw zq_m114 ∈ zq_WG := List.mem_filter.mpr ⟨List.mem_append_right _ (List.mem_of_getElem? (i := 907) rfl), rfl⟩
set_option maxRecDepth 20000 in
theorem zq_c115 : zq_cw zq_m115 ∈ zq_WG := List.mem_filter.mpr ⟨List.mem_append_right _ (List.mem_of_getElem? (i := 913) rfl), rfl⟩
set_option maxRecDepth 20000 in
theorem zq_c116 : zq_cw zq_m116 ∈ zq_WG := List.mem_filter.mpr ⟨List.mem_append_right _ (List.mem_of_getElem? (i := 916) rfl), rfl⟩
set_option maxRecDepth 20000 in
theorem zq_c117 : zq_cw zq_m117 ∈ zq_WG := List.mem_filter.mpr ⟨List.mem_append_right _ (List.mem_of_getElem? (i := 921) rfl), rfl⟩
set_option maxRecDepth 20000 in
theorem zq_c118 : zq_cw zq_m118 ∈ zq_WG := List.mem_filter.mpr ⟨List.mem_append_right _ (List.mem_of_getElem? (i := 925) rfl), rfl⟩
set_option maxRecDepth 20000 in
theorem zq_c119 : zq_cw zq_m119 ∈ zq_WG := List.mem_filter.mpr ⟨List.mem_append_right _ (List.mem_of_getElem? (i := 929) rfl), rfl⟩
set_option maxRecDepth 20000 in
theorem zq_c120 : zq_cw zq_m120 ∈ zq_WG := List.mem_filter.mpr ⟨List.mem_append_right _ (List.mem_of_getElem? (i := 933) rfl), rfl⟩
set_option maxRecDepth 20000 in
theorem zq_c121 : zq_cw zq_m121 ∈ zq_WG := List.mem_filter.mpr ⟨List.mem_append_right _ (List.mem_of_getElem? (i := 937) rfl), rfl⟩
set_option maxRecDepth 20000 in
theorem zq_c122 : zq_cw zq_m122 ∈ zq_WG := List.mem_filter.mpr ⟨List.mem_append_right _ (List.mem_of_getElem? (i := 940) rfl), rfl⟩
set_option maxRecDepth 20000 in
theorem zq_c123 : zq_cw zq_m123 ∈ zq_WG := List.mem_filter.mpr ⟨List.mem_append_right _ (List.mem_of_getElem? (i := 949) rfl), rfl⟩
set_option maxRecDepth 20000 in
theorem zq_c124 : zq_cw zq_m124 ∈ zq_WG := List.mem_filter.mpr ⟨List.mem_append_right _ (List.mem_of_getElem? (i := 953) rfl), rfl⟩
set_option maxRecDepth 20000 in
theorem zq_c125 : zq_cw zq_m125 ∈ zq_WG := List.mem_filter.mpr ⟨List.mem_append_right _ (List.mem_of_getElem? (i := 957) rfl), rfl⟩
set_option maxRecDepth 20000 in
theorem zq_c126 : zq_cw zq_m126 ∈ zq_WG := List.mem_filter.mpr ⟨List.mem_append_right _ (List.mem_of_getElem? (i := 962) rfl), rfl⟩
set_option maxRecDepth 20000 in
theorem zq_c127 : zq_cw zq_m127 ∈ zq_WG := List.mem_filter.mpr ⟨List.mem_append_right _ (List.mem_of_getElem? (i := 967) rfl), rfl⟩
set_option maxRecDepth 20000 in
theorem zq_c128 : zq_cw zq_m128 ∈ zq_WG := List.mem_filter.mpr ⟨List.mem_append_right _ (List.mem_of_getElem? (i := 971) rfl), rfl⟩
set_option maxRecDepth 20000 in
theorem zq_c129 : zq_cw zq_m129 ∈ zq_WG := List.mem_filter.mpr ⟨List.mem_append_right _ (List.mem_of_getElem? (i := 975) rfl), rfl⟩
set_option maxRecDepth 20000 in
theorem zq_c130 : zq_cw zq_m130 ∈ zq_WG := List.mem_filter.mpr ⟨List.mem_append_right _ (List.mem_of_getElem? (i := 980) rfl), rfl⟩
set_option maxRecDepth 20000 in
theorem zq_c131 : zq_cw zq_m131 ∈ zq_WG := List.mem_filter.mpr ⟨List.mem_append_right _ (List.mem_of_getElem? (i := 984) rfl), rfl⟩
set_option maxRecDepth 20000 in
theorem zq_c132 : zq_cw zq_m132 ∈ zq_WG := List.mem_filter.mpr ⟨List.mem_append_right _ (List.mem_of_getElem? (i := 989) rfl), rfl⟩
set_option maxRecDepth 20000 in
theorem zq_c133 : zq_cw zq_m133 ∈ zq_WG := List.mem_filter.mpr ⟨List.mem_append_right _ (List.mem_of_getElem? (i := 994) rfl), rfl⟩
set_option maxRecDepth 20000 in
theorem zq_c134 : zq_cw zq_m134 ∈ zq_WG := List.mem_filter.mpr ⟨List.mem_append_right _ (List.mem_of_getElem? (i := 998) rfl), rfl⟩
set_option maxRecDepth 20000 in
theorem zq_c135 : zq_cw zq_m135 ∈ zq_WG := List.mem_filter.mpr ⟨List.mem_append_right _ (List.mem_of_getElem? (i := 1002) rfl), rfl⟩
set_option maxRecDepth 20000 in
theorem zq_c136 : zq_cw zq_m136 ∈ zq_WG := List.mem_filter.mpr ⟨List.mem_append_right _ (List.mem_of_getElem? (i := 1008) rfl), rfl⟩
set_option maxRecDepth 20000 in
theorem zq_c137 : zq_cw zq_m137 ∈ zq_WG := List.mem_filter.mpr ⟨List.mem_append_right _ (List.mem_of_getElem? (i := 1012) rfl), rfl⟩
set_option maxRecDepth 20000 in
theorem zq_c138 : zq_cw zq_m138 ∈ zq_WG := List.mem_filter.mpr ⟨List.mem_append_right _ (List.mem_of_getElem? (i := 1016) rfl), rfl⟩
set_option maxRecDepth 20000 in
theorem zq_c139 : zq_cw zq_m139 ∈ zq_WG := List.mem_filter.mpr ⟨List.mem_append_right _ (List.mem_of_getElem? (i := 1020) rfl), rfl⟩
set_option maxRecDepth 20000 in
theorem zq_c140 : zq_cw zq_m140 ∈ zq_WG := List.mem_filter.mpr ⟨List.mem_append_right _ (List.mem_of_getElem? (i := 1025) rfl), rfl⟩
set_option maxRecDepth 20000 in
theorem zq_c141 : zq_cw zq_m141 ∈ zq_WG := List.mem_filter.mpr ⟨List.mem_append_right _ (List.mem_of_getElem? (i := 1029) rfl), rfl⟩
set_option maxRecDepth 20000 in
theorem zq_c142 : zq_cw zq_m142 ∈ zq_WG := List.mem_filter.mpr ⟨List.mem_append_right _ (List.mem_of_getElem? (i := 1034) rfl), rfl⟩
set_option maxRecDepth 20000 in
theorem zq_c143 : zq_cw zq_m143 ∈ zq_WG := List.mem_filter.mpr ⟨List.mem_append_right _ (List.mem_of_getElem? (i := 1038) rfl), rfl⟩
set_option maxRecDepth 20000 in
theorem zq_c144 : zq_cw zq_m144 ∈ zq_WG := List.mem_filter.mpr ⟨List.mem_append_right _ (List.mem_of_getElem? (i := 1046) rfl), rfl⟩
set_option maxRecDepth 20000 in
theorem zq_c145 : zq_cw zq_m145 ∈ zq_WG := List.mem_filter.mpr ⟨List.mem_append_right _ (List.mem_of_getElem? (i := 1110) rfl), rfl⟩
set_option maxRecDepth 20000 in
theorem zq_c146 : zq_cw zq_m146 ∈ zq_WG := List.mem_filter.mpr ⟨List.mem_append_right _ (List.mem_of_getElem? (i := 1114) rfl), rfl⟩
set_option maxRecDepth 20000 in
theorem zq_c147 : zq_cw zq_m147 ∈ zq_WG := List.mem_filter.mpr ⟨List.mem_append_right _ (List.mem_of_getElem? (i := 1118) rfl), rfl⟩
set_option maxRecDepth 20000 in
theorem zq_c148 : zq_cw zq_m148 ∈ zq_WG := List.mem_filter.mpr ⟨List.mem_append_right _ (List.mem_of_getElem? (i := 1123) rfl), rfl⟩
set_option maxRecDepth 20000 in
theorem zq_c149 : zq_cw zq_m149 ∈ zq_WG := List.mem_filter.mpr ⟨List.mem_append_right _ (List.mem_of_getElem? (i := 1127) rfl), rfl⟩
set_option maxRecDepth 20000 in
theorem zq_c150 : zq_cw zq_m150 ∈ zq_WG := List.mem_filter.mpr ⟨List.mem_append_right _ (List.mem_of_getElem? (i := 1168) rfl), rfl⟩
set_option maxRecDepth 20000 in
theorem zq_c151 : zq_cw zq_m151 ∈ zq_WG := List.mem_filter.mpr ⟨List.mem_append_right _ (List.mem_of_getElem? (i := 1172) rfl), rfl⟩
set_option maxRecDepth 20000 in
theorem zq_c152 : zq_cw zq_m152 ∈ zq_WG := List.mem_filter.mpr ⟨List.mem_append_right _ (List.mem_of_getElem? (i := 1176) rfl), rfl⟩
set_option maxRecDepth 20000 in
theorem zq_c153 : zq_cw zq_m153 ∈ zq_WG := List.mem_filter.mpr ⟨List.mem_append_right _ (List.mem_of_getElem? (i := 1180) rfl), rfl⟩
set_option maxRecDepth 20000 in
theorem zq_c154 : zq_cw zq_m154 ∈ zq_WG := List.mem_filter.mpr ⟨List.mem_append_right _ (List.mem_of_getElem? (i := 1184) rfl), rfl⟩
set_option maxRecDepth 20000 in
theorem zq_c155 : zq_cw zq_m155 ∈ zq_WG := List.mem_filter.mpr ⟨List.mem_append_right _ (List.mem_of_getElem? (i := 1188) rfl), rfl⟩
set_option maxRecDepth 20000 in
theorem zq_c156 : zq_cw zq_m156 ∈ zq_WG := List.mem_filter.mpr ⟨List.mem_append_right _ (List.mem_of_getElem? (i := 1326) rfl), rfl⟩
set_option maxRecDepth 20000 in
theorem zq_c157 : zq_cw zq_m157 ∈ zq_WG := List.mem_filter.mpr ⟨List.mem_append_right _ (List.mem_of_getElem? (i := 1330) rfl), rfl⟩
set_option maxRecDepth 20000 in
theorem zq_c158 : zq_cw zq_m158 ∈ zq_WG := List.mem_filter.mpr ⟨List.mem_append_right _ (List.mem_of_getElem? (i := 1333) rfl), rfl⟩
set_option maxRecDepth 20000 in
theorem zq_c159 : zq_cw zq_m159 ∈ zq_WG := List.mem_filter.mpr ⟨List.mem_append_right _ (List.mem_of_getElem? (i := 1337) rfl), rfl⟩
set_option maxRecDepth 20000 in
theorem zq_c160 : zq_cw zq_m160 ∈ zq_WG := List.mem_filter.mpr ⟨List.mem_append_right _ (List.mem_of_getElem? (i := 1340) rfl), rfl⟩
set_option maxRecDepth 20000 in
theorem zq_c161 : zq_cw zq_m161 ∈ zq_WG := List.mem_filter.mpr ⟨List.mem_append_right _ (List.mem_of_getElem? (i := 1345) rfl), rfl⟩
set_option maxRecDepth 20000 in
theorem zq_c162 : zq_cw zq_m162 ∈ zq_WG := List.mem_filter.mpr ⟨List.mem_append_right _ (List.mem_of_getElem? (i := 1349) rfl), rfl⟩
set_option maxRecDepth 20000 in
theorem zq_c163 : zq_cw zq_m163 ∈ zq_WG := List.mem_filter.mpr ⟨List.mem_append_right _ (List.mem_of_getElem? (i := 1353) rfl), rfl⟩
set_option maxRecDepth 20000 in
theorem zq_c164 : zq_cw zq_m164 ∈ zq_WG := List.mem_filter.mpr ⟨List.mem_append_right _ (List.mem_of_getElem? (i := 1357) rfl), rfl⟩
set_option maxRecDepth 20000 in
theorem zq_c165 : zq_cw zq_m165 ∈ zq_WG := List.mem_filter.mpr ⟨List.mem_append_right _ (List.mem_of_getElem? (i := 1361) rfl), rfl⟩
set_option maxRecDepth 20000 in
theorem zq_c166 : zq_cw zq_m166 ∈ zq_WG := List.mem_filter.mpr ⟨List.mem_append_right _ (List.mem_of_getElem? (i := 1365) rfl), rfl⟩
set_option maxRecDepth 20000 in
theorem zq_c167 : zq_cw zq_m167 ∈ zq_WG := List.mem_filter.mpr ⟨List.mem_append_right _ (List.mem_of_getElem? (i := 1369) rfl), rfl⟩
set_option maxRecDepth 20000 in
theorem zq_c168 : zq_cw zq_m168 ∈ zq_WG := List.mem_filter.mpr ⟨List.mem_append_right _ (List.mem_of_getElem? (i := 1373) rfl), rfl⟩
set_option maxRecDepth 20000 in
theorem zq_c169 : zq_cw zq_m169 ∈ zq_WG := List.mem_filter.mpr ⟨List.mem_append_right _ (List.mem_of_getElem? (i := 1377) rfl), rfl⟩
set_option maxRecDepth 20000 in
theorem zq_c170 : zq_cw zq_m170 ∈ zq_WG := List.mem_filter.mpr ⟨List.mem_append_right _ (List.mem_of_getElem? (i := 1381) rfl), rfl⟩
set_option maxRecDepth 20000 in
theorem zq_c171 : zq_cw zq_m171 ∈ zq_WG := List.mem_filter.mpr ⟨List.mem_append_right _ (List.mem_of_getElem? (i := 1385) rfl), rfl⟩
set_option maxRecDepth 20000 in
theorem zq_c172 : zq_cw zq_m172 ∈ zq_WG := List.mem_filter.mpr ⟨List.mem_append_right _ (List.mem_of_getElem? (i := 1389) rfl), rfl⟩
set_option maxRecDepth 20000 in
theorem zq_c173 : zq_cw zq_m173 ∈ zq_WG := List.mem_filter.mpr ⟨List.mem_append_right _ (List.mem_of_getElem? (i := 1393) rfl), rfl⟩
set_option maxRecDepth 20000 in
theorem zq_c174 : zq_cw zq_m174 ∈ zq_WG := List.mem_filter.mpr ⟨List.mem_append_right _ (List.mem_of_getElem? (i := 1397) rfl), rfl⟩
set_option maxRecDepth 20000 in
theorem zq_c175 : zq_cw zq_m175 ∈ zq_WG := List.mem_filter.mpr ⟨List.mem_append_right _ (List.mem_of_getElem? (i := 1400) rfl), rfl⟩
set_option maxRecDepth 20000 in
theorem zq_c176 : zq_cw zq_m176 ∈ zq_WG := List.mem_filter.mpr ⟨List.mem_append_right _ (List.mem_of_getElem? (i := 1404) rfl), rfl⟩
set_option maxRecDepth 20000 in
theorem zq_c177 : zq_cw zq_m177 ∈ zq_WG := List.mem_filter.mpr ⟨List.mem_append_right _ (List.mem_of_getElem? (i := 1408) rfl), rfl⟩
set_option maxRecDepth 20000 in
theorem zq_c178 : zq_cw zq_m178 ∈ zq_WG := List.mem_filter.mpr ⟨List.mem_append_right _ (List.mem_of_getElem? (i := 1412) rfl), rfl⟩
set_option maxRecDepth 20000 in
theorem zq_c179 : zq_cw zq_m179 ∈ zq_WG := List.mem_filter.mpr ⟨List.mem_append_right _ (List.mem_of_getElem? (i := 1416) rfl), rfl⟩
set_option maxRecDepth 20000 in
theorem zq_c180 : zq_cw zq_m180 ∈ zq_WG := List.mem_filter.mpr ⟨List.mem_append_right _ (List.mem_of_getElem? (i := 1420) rfl), rfl⟩
set_option maxRecDepth 20000 in
theorem zq_c181 : zq_cw zq_m181 ∈ zq_WG := List.mem_filter.mpr ⟨List.mem_append_right _ (List.mem_of_getElem? (i := 1424) rfl), rfl⟩
set_option maxRecDepth 20000 in
theorem zq_c182 : zq_cw zq_m182 ∈ zq_WG := List.mem_filter.mpr ⟨List.mem_append_right _ (List.mem_of_getElem? (i := 1428) rfl), rfl⟩
set_option maxRecDepth 20000 in
theorem zq_c183 : zq_cw zq_m183 ∈ zq_WG := List.mem_filter.mpr ⟨List.mem_append_right _ (List.mem_of_getElem? (i := 1432) rfl), rfl⟩
set_option maxRecDepth 20000 in
theorem zq_c184 : zq_cw zq_m184 ∈ zq_WG := List.mem_filter.mpr ⟨List.mem_append_right _ (List.mem_of_getElem? (i := 1436) rfl), rfl⟩
set_option maxRecDepth 20000 in
theorem zq_c185 : zq_cw zq_m185 ∈ zq_WG := List.mem_filter.mpr ⟨List.mem_append_right _ (List.mem_of_getElem? (i := 1440) rfl), rfl⟩
set_option maxRecDepth 20000 in
theorem zq_c186 : zq_cw zq_m186 ∈ zq_WG := List.mem_filter.mpr ⟨List.mem_append_right _ (List.mem_of_getElem? (i := 1444) rfl), rfl⟩
set_option maxRecDepth 20000 in
theorem zq_c187 : zq_cw zq_m187 ∈ zq_WG := List.mem_filter.mpr ⟨List.mem_append_right _ (List.mem_of_getElem? (i := 1448) rfl), rfl⟩
set_option maxRecDepth 20000 in
theorem zq_c188 : zq_cw zq_m188 ∈ zq_WG := List.mem_filter.mpr ⟨List.mem_append_right _ (List.mem_of_getElem? (i := 1452) rfl), rfl⟩
set_option maxRecDepth 20000 in
theorem zq_c189 : zq_cw zq_m189 ∈ zq_WG := List.mem_filter.mpr ⟨List.mem_append_right _ (List.mem_of_getElem? (i := 1456) rfl), rfl⟩
set_option maxRecDepth 20000 in
theorem zq_c190 : zq_cw zq_m190 ∈ zq_WG := List.mem_filter.mpr ⟨List.mem_append_right _ (List.mem_of_getElem? (i := 1460) rfl), rfl⟩
set_option maxRecDepth 20000 in
theorem zq_c191 : zq_cw zq_m191 ∈ zq_WG := List.mem_filter.mpr ⟨List.mem_append_right _ (List.mem_of_getElem? (i := 1464) rfl), rfl⟩
set_option maxRecDepth 20000 in
theorem zq_c192 : zq_cw zq_m192 ∈ zq_WG := List.mem_filter.mpr ⟨List.mem_append_right _ (List.mem_of_getElem? (i := 1468) rfl), rfl⟩
set_option maxRecDepth 20000 in
theorem zq_c193 : zq_cw zq_m193 ∈ zq_WG := List.mem_filter.mpr ⟨List.mem_append_right _ (List.mem_of_getElem? (i := 1472) rfl), rfl⟩
set_option maxRecDepth 20000 in
theorem zq_c194 : zq_cw zq_m194 ∈ zq_WG := List.mem_filter.mpr ⟨List.mem_append_right _ (List.mem_of_getElem? (i := 1476) rfl), rfl⟩
set_option maxRecDepth 20000 in
theorem zq_c195 : zq_cw zq_m195 ∈ zq_WG := List.mem_filter.mpr ⟨List.mem_append_right _ (List.mem_of_getElem? (i := 1480) rfl), rfl⟩
set_option maxRecDepth 20000 in
theorem zq_c196 : zq_cw zq_m196 ∈ zq_WG := List.mem_filter.mpr ⟨List.mem_append_right _ (List.mem_of_getElem? (i := 1484) rfl), rfl⟩
set_option maxRecDepth 20000 in
theorem zq_c197 : zq_cw zq_m197 ∈ zq_WG := List.mem_filter.mpr ⟨List.mem_append_right _ (List.mem_of_getElem? (i := 1487) rfl), rfl⟩
set_option maxRecDepth 20000 in
theorem zq_c198 : zq_cw zq_m198 ∈ zq_WG := List.mem_filter.mpr ⟨List.mem_append_right _ (List.mem_of_getElem? (i := 1491) rfl), rfl⟩
set_option maxRecDepth 20000 in
theorem zq_c199 : zq_cw zq_m199 ∈ zq_WG := List.mem_filter.mpr ⟨List.mem_append_right _ (List.mem_of_getElem? (i := 1495) rfl), rfl⟩
set_option maxRecDepth 20000 in
theorem zq_c200 : zq_cw zq_m200 ∈ zq_WG := List.mem_filter.mpr ⟨List.mem_append_right _ (List.mem_of_getElem? (i := 1499) rfl), rfl⟩
set_option maxRecDepth 20000 in
theorem zq_c201 : zq_cw zq_m201 ∈ zq_WG := List.mem_filter.mpr ⟨List.mem_append_right _ (List.mem_of_getElem? (i := 1503) rfl), rfl⟩
set_option maxRecDepth 20000 in
theorem zq_c202 : zq_cw zq_m202 ∈ zq_WG := List.mem_filter.mpr ⟨List.mem_append_right _ (List.mem_of_getElem? (i := 1507) rfl), rfl⟩
set_option maxRecDepth 20000 in
theorem zq_c203 : zq_cw zq_m203 ∈ zq_WG := List.mem_filter.mpr ⟨List.mem_append_right _ (List.mem_of_getElem? (i := 1511) rfl), rfl⟩
set_option maxRecDepth 20000 in
theorem zq_c204 : zq_cw zq_m204 ∈ zq_WG := List.mem_filter.mpr ⟨List.mem_append_right _ (List.mem_of_getElem? (i := 1515) rfl), rfl⟩
set_option maxRecDepth 20000 in
theorem zq_c205 : zq_cw zq_m205 ∈ zq_WG := List.mem_filter.mpr ⟨List.mem_append_right _ (List.mem_of_getElem? (i := 1519) rfl), rfl⟩
set_option maxRecDepth 20000 in
theorem zq_c206 : zq_cw zq_m206 ∈ zq_WG := List.mem_filter.mpr ⟨List.mem_append_right _ (List.mem_of_getElem? (i := 1523) rfl), rfl⟩
set_option maxRecDepth 20000 in
theorem zq_c207 : zq_cw zq_m207 ∈ zq_WG := List.mem_filter.mpr ⟨List.mem_append_right _ (List.mem_of_getElem? (i := 1527) rfl), rfl⟩
set_option maxRecDepth 20000 in
theorem zq_c208 : zq_cw zq_m208 ∈ zq_WG := List.mem_filter.mpr ⟨List.mem_append_right _ (List.mem_of_getElem? (i := 1531) rfl), rfl⟩
set_option maxRecDepth 20000 in
theorem zq_c209 : zq_cw zq_m209 ∈ zq_WG := List.mem_filter.mpr ⟨List.mem_append_right _ (List.mem_of_getElem? (i := 1535) rfl), rfl⟩
set_option maxRecDepth 20000 in
theorem zq_c210 : zq_cw zq_m210 ∈ zq_WG := List.mem_filter.mpr ⟨List.mem_append_right _ (List.mem_of_getElem? (i := 1539) rfl), rfl⟩
set_option maxRecDepth 20000 in
theorem zq_c211 : zq_cw zq_m211 ∈ zq_WG := List.mem_filter.mpr ⟨List.mem_append_right _ (List.mem_of_getElem? (i := 1547) rfl), rfl⟩
set_option maxRecDepth 20000 in
theorem zq_c212 : zq_cw zq_m212 ∈ zq_WG := List.mem_filter.mpr ⟨List.mem_append_right _ (List.mem_of_getElem? (i := 1551) rfl), rfl⟩
set_option maxRecDepth 20000 in
theorem zq_c213 : zq_cw zq_m213 ∈ zq_WG := List.mem_filter.mpr ⟨List.mem_append_right _ (List.mem_of_getElem? (i := 1555) rfl), rfl⟩
set_option maxRecDepth 20000 in
theorem zq_c214 : zq_cw zq_m214 ∈ zq_WG := List.mem_filter.mpr ⟨List.mem_append_right _ (List.mem_of_getElem? (i := 1559) rfl), rfl⟩
set_option maxRecDepth 20000 in
theorem zq_c215 : zq_cw zq_m215 ∈ zq_WG := List.mem_filter.mpr ⟨List.mem_append_right _ (List.mem_of_getElem? (i := 1563) rfl), rfl⟩
set_option maxRecDepth 20000 in
theorem zq_c216 : zq_cw zq_m216 ∈ zq_WG := List.mem_filter.mpr ⟨List.mem_append_right _ (List.mem_of_getElem? (i := 1567) rfl), rfl⟩
set_option maxRecDepth 20000 in
theorem zq_c217 : zq_cw zq_m217 ∈ zq_WG := List.mem_filter.mpr ⟨List.mem_append_right _ (List.mem_of_getElem? (i := 1571) rfl), rfl⟩
set_option maxRecDepth 20000 in
theorem zq_c218 : zq_cw zq_m218 ∈ zq_WG := List.mem_filter.mpr ⟨List.mem_append_right _ (List.mem_of_getElem? (i := 1575) rfl), rfl⟩
set_option maxRecDepth 20000 in
theorem zq_c219 : zq_cw zq_m219 ∈ zq_WG := List.mem_filter.mpr ⟨List.mem_append_right _ (List.mem_of_getElem? (i := 1579) rfl), rfl⟩
set_option maxRecDepth 20000 in
theorem zq_c220 : zq_cw zq_m220 ∈ zq_WG := List.mem_filter.mpr ⟨List.mem_append_right _ (List.mem_of_getElem? (i := 1583) rfl), rfl⟩
set_option maxRecDepth 20000 in
theorem zq_c221 : zq_cw zq_m221 ∈ zq_WG := List.mem_filter.mpr ⟨List.mem_append_right _ (List.mem_of_getElem? (i := 1587) rfl), rfl⟩
set_option maxRecDepth 20000 in
theorem zq_c222 : zq_cw zq_m222 ∈ zq_WG := List.mem_filter.mpr ⟨List.mem_append_right _ (List.mem_of_getElem? (i := 1591) rfl), rfl⟩
set_option maxRecDepth 20000 in
theorem zq_c223 : zq_cw zq_m223 ∈ zq_WG := List.mem_filter.mpr ⟨List.mem_append_right _ (List.mem_of_getElem? (i := 1595) rfl), rfl⟩
set_option maxRecDepth 20000 in
theorem zq_c224 : zq_cw zq_m224 ∈ zq_WG := List.mem_filter.mpr ⟨List.mem_append_right _ (List.mem_of_getElem? (i := 1599) rfl), rfl⟩
set_option maxRecDepth 20000 in
theorem zq_c225 : zq_cw zq_m225 ∈ zq_WG := List.mem_filter.mpr ⟨List.mem_append_right _ (List.mem_of_getElem? (i := 1603) rfl), rfl⟩
set_option maxRecDepth 20000 in
theorem zq_c226 : zq_cw zq_m226 ∈ zq_WG := List.mem_filter.mpr ⟨List.mem_append_right _ (List.mem_of_getElem? (i := 1607) rfl), rfl⟩
set_option maxRecDepth 20000 in
theorem zq_c227 : zq_cw zq_m227 ∈ zq_WG := List.mem_filter.mpr ⟨List.mem_append_right _ (List.mem_of_getElem? (i := 1611) rfl), rfl⟩
set_option maxRecDepth 20000 in
theorem zq_c228 : zq_cw zq_m228 ∈ zq_WG := List.mem_filter.mpr ⟨List.mem_append_right _ (List.mem_of_getElem? (i := 1615) rfl), rfl⟩
set_option maxRecDepth 20000 in
theorem zq_c229 : zq_cw zq_m229 ∈ zq_WG := List.mem_filter.mpr ⟨List.mem_append_right _ (List.mem_of_getElem? (i := 1619) rfl), rfl⟩
set_option maxRecDepth 20000 in
theorem zq_c230 : zq_cw zq_m230 ∈ zq_WG := List.mem_filter.mpr ⟨List.mem_append_right _ (List.mem_of_getElem? (i := 1623) rfl), rfl⟩
set_option maxRecDepth 20000 in
theorem zq_c231 : zq_cw zq_m231 ∈ zq_WG := List.mem_filter.mpr ⟨List.mem_append_right _ (List.mem_of_getElem? (i := 1627) rfl), rfl⟩
set_option maxRecDepth 20000 in
theorem zq_c232 : zq_cw zq_m232 ∈ zq_WG := List.mem_filter.mpr ⟨List.mem_append_right _ (List.mem_of_getElem? (i := 1632) rfl), rfl⟩
set_option maxRecDepth 20000 in
theorem zq_c233 : zq_cw zq_m233 ∈ zq_WG := List.mem_filter.mpr ⟨List.mem_append_right _ (List.mem_of_getElem? (i := 1636) rfl), rfl⟩
set_option maxRecDepth 20000 in
theorem zq_c234 : zq_cw zq_m234 ∈ zq_WG := List.mem_filter.mpr ⟨List.mem_append_right _ (List.mem_of_getElem? (i := 1640) rfl), rfl⟩
set_option maxRecDepth 20000 in
theorem zq_c235 : zq_cw zq_m235 ∈ zq_WG := List.mem_filter.mpr ⟨List.mem_append_right _ (List.mem_of_getElem? (i := 1643) rfl), rfl⟩
set_option maxRecDepth 20000 in
theorem zq_c236 : zq_cw zq_m236 ∈ zq_WG := List.mem_filter.mpr ⟨List.mem_append_right _ (List.mem_of_getElem? (i := 1647) rfl), rfl⟩
set_option maxRecDepth 20000 in
theorem zq_c237 : zq_cw zq_m237 ∈ zq_WG := List.mem_filter.mpr ⟨List.mem_append_right _ (List.mem_of_getElem? (i := 1651) rfl), rfl⟩
set_option maxRecDepth 20000 in
theorem zq_c238 : zq_cw zq_m238 ∈ zq_WG := List.mem_filter.mpr ⟨List.mem_append_right _ (List.mem_of_getElem? (i := 1655) rfl), rfl⟩
set_option maxRecDepth 20000 in
theorem zq_c239 : zq_cw zq_m239 ∈ zq_WG := List.mem_filter.mpr ⟨List.mem_append_right _ (List.mem_of_getElem? (i := 1659) rfl), rfl⟩
set_option maxRecDepth 20000 in
theorem zq_c240 : zq_cw zq_m240 ∈ zq_WG := List.mem_filter.mpr ⟨List.mem_append_right _ (List.mem_of_getElem? (i := 1663) rfl), rfl⟩
set_option maxRecDepth 20000 in
theorem zq_c241 : zq_cw zq_m241 ∈ zq_WG := List.mem_filter.mpr ⟨List.mem_append_right _ (List.mem_of_getElem? (i := 1667) rfl), rfl⟩
set_option maxRecDepth 20000 in
theorem zq_c242 : zq_cw zq_m242 ∈ zq_WG := List.mem_filter.mpr ⟨List.mem_append_right _ (List.mem_of_getElem? (i := 1671) rfl), rfl⟩
set_option maxRecDepth 20000 in
theorem zq_c243 : zq_cw zq_m243 ∈ zq_WG := List.mem_filter.mpr ⟨List.mem_append_right _ (List.mem_of_getElem? (i := 1675) rfl), rfl⟩
set_option maxRecDepth 20000 in
theorem zq_c244 : zq_cw zq_m244 ∈ zq_WG := List.mem_filter.mpr ⟨List.mem_append_right _ (List.mem_of_getElem? (i := 1679) rfl), rfl⟩
set_option maxRecDepth 20000 in
theorem zq_c245 : zq_cw zq_m245 ∈ zq_WG := List.mem_filter.mpr ⟨List.mem_append_right _ (List.mem_of_getElem? (i := 1683) rfl), rfl⟩
set_option maxRecDepth 20000 in
theorem zq_c246 : zq_cw zq_m246 ∈ zq_WG := List.mem_filter.mpr ⟨List.mem_append_right _ (List.mem_of_getElem? (i := 1687) rfl), rfl⟩
set_option maxRecDepth 20000 in
theorem zq_c247 : zq_cw zq_m247 ∈ zq_WG := List.mem_filter.mpr ⟨List.mem_append_right _ (List.mem_of_getElem? (i := 1690) rfl), rfl⟩
set_option maxRecDepth 20000 in
theorem zq_c248 : zq_cw zq_m248 ∈ zq_WG := List.mem_filter.mpr ⟨List.mem_append_right _ (List.mem_of_getElem? (i := 1693) rfl), rfl⟩
set_option maxRecDepth 20000 in
theorem zq_c249 : zq_cw zq_m249 ∈ zq_WG := List.mem_filter.mpr ⟨List.mem_append_right _ (List.mem_of_getElem? (i := 1697) rfl), rfl⟩
set_option maxRecDepth 20000 in
theorem zq_c250 : zq_cw zq_m250 ∈ zq_WG := List.mem_filter.mpr ⟨List.mem_append_right _ (List.mem_of_getElem? (i := 1701) rfl), rfl⟩
set_option maxRecDepth 20000 in
theorem zq_c251 : zq_cw zq_m251 ∈ zq_WG := List.mem_filter.mpr ⟨List.mem_append_right _ (List.mem_of_getElem? (i := 1705) rfl), rfl⟩
set_option maxRecDepth 20000 in
theorem zq_c252 : zq_cw zq_m252 ∈ zq_WG := List.mem_filter.mpr ⟨List.mem_append_right _ (List.mem_of_getElem? (i := 1709) rfl), rfl⟩
set_option maxRecDepth 20000 in
theorem zq_c253 : zq_cw zq_m253 ∈ zq_WG := List.mem_filter.mpr ⟨List.mem_append_right _ (List.mem_of_getElem? (i := 1712) rfl), rfl⟩
set_option maxRecDepth 20000 in
theorem zq_c254 : zq_cw zq_m254 ∈ zq_WG := List.mem_filter.mpr ⟨List.mem_append_right _ (List.mem_of_getElem? (i := 1716) rfl), rfl⟩
set_option maxRecDepth 20000 in
theorem zq_c255 : zq_cw zq_m255 ∈ zq_WG := List.mem_filter.mpr ⟨List.mem_append_right _ (List.mem_of_getElem? (i := 1721) rfl), rfl⟩
set_option maxRecDepth 20000 in
theorem zq_c256 : zq_cw zq_m256 ∈ zq_WG := List.mem_filter.mpr ⟨List.mem_append_right _ (List.mem_of_getElem? (i := 1725) rfl), rfl⟩
set_option maxRecDepth 20000 in
theorem zq_c257 : zq_cw zq_m257 ∈ zq_WG := List.mem_filter.mpr ⟨List.mem_append_right _ (List.mem_of_getElem? (i := 1729) rfl), rfl⟩
set_option maxRecDepth 20000 in
theorem zq_c258 : zq_cw zq_m258 ∈ zq_WG := List.mem_filter.mpr ⟨List.mem_append_right _ (List.mem_of_getElem? (i := 1733) rfl), rfl⟩
set_option maxRecDepth 20000 in
theorem zq_c259 : zq_cw zq_m259 ∈ zq_WG := List.mem_filter.mpr ⟨List.mem_append_right _ (List.mem_of_getElem? (i := 1737) rfl), rfl⟩
set_option maxRecDepth 20000 in
theorem zq_c260 : zq_cw zq_m260 ∈ zq_WG := List.mem_filter.mpr ⟨List.mem_append_right _ (List.mem_of_getElem? (i := 1741) rfl), rfl⟩
set_option maxRecDepth 20000 in
theorem zq_c261 : zq_cw zq_m261 ∈ zq_WG := List.mem_filter.mpr ⟨List.mem_append_right _ (List.mem_of_getElem? (i := 1745) rfl), rfl⟩
set_option maxRecDepth 20000 in
theorem zq_c262 : zq_cw zq_m262 ∈ zq_WG := List.mem_filter.mpr ⟨List.mem_append_right _ (List.mem_of_getElem? (i := 1749) rfl), rfl⟩
set_option maxRecDepth 20000 in
theorem zq_c263 : zq_cw zq_m263 ∈ zq_WG := List.mem_filter.mpr ⟨List.mem_append_right _ (List.mem_of_getElem? (i := 1753) rfl), rfl⟩
set_option maxRecDepth 20000 in
theorem zq_c264 : zq_cw zq_m264 ∈ zq_WG := List.mem_filter.mpr ⟨List.mem_append_right _ (List.mem_of_getElem? (i := 1757) rfl), rfl⟩
set_option maxRecDepth 20000 in
theorem zq_c265 : zq_cw zq_m265 ∈ zq_WG := List.mem_filter.mpr ⟨List.mem_append_right _ (List.mem_of_getElem? (i := 1761) rfl), rfl⟩
set_option maxRecDepth 20000 in
theorem zq_c266 : zq_cw zq_m266 ∈ zq_WG := List.mem_filter.mpr ⟨List.mem_append_right _ (List.mem_of_getElem? (i := 1765) rfl), rfl⟩
theorem zq_cg0 : ∀ q ∈ zq_MT0, zq_cw q ∈ zq_WG := List.forall_mem_cons.mpr ⟨zq_c0, List.forall_mem_cons.mpr ⟨zq_c1, List.forall_mem_cons.mpr ⟨zq_c2, List.forall_mem_cons.mpr ⟨zq_c3, List.forall_mem_cons.mpr ⟨zq_c4, List.forall_mem_cons.mpr ⟨zq_c5, List.forall_mem_cons.mpr ⟨zq_c6, List.forall_mem_cons.mpr ⟨zq_c7, List.forall_mem_cons.mpr ⟨zq_c8, List.forall_mem_cons.mpr ⟨zq_c9, List.forall_mem_cons.mpr ⟨zq_c10, List.forall_mem_cons.mpr ⟨zq_c11, List.forall_mem_cons.mpr ⟨zq_c12, List.forall_mem_cons.mpr ⟨zq_c13, List.forall_mem_cons.mpr ⟨zq_c14, List.forall_mem_cons.mpr ⟨zq_c15, fun _ h => absurd h List.not_mem_nil⟩⟩⟩⟩⟩⟩⟩⟩⟩⟩⟩⟩⟩⟩⟩⟩
theorem zq_cg1 : ∀ q ∈ zq_MT1, zq_cw q ∈ zq_WG := List.forall_mem_cons.mpr ⟨zq_c16, List.forall_mem_cons.mpr ⟨zq_c17, List.forall_mem_cons.mpr ⟨zq_c18, List.forall_mem_cons.mpr ⟨zq_c19, List.forall_mem_cons.mpr ⟨zq_c20, List.forall_mem_cons.mpr ⟨zq_c21, List.forall_mem_cons.mpr ⟨zq_c22, List.forall_mem_cons.mpr ⟨zq_c23, List.forall_mem_cons.mpr ⟨zq_c24, List.forall_mem_cons.mpr ⟨zq_c25, List.forall_mem_cons.mpr ⟨zq_c26, List.forall_mem_cons.mpr ⟨zq_c27, List.forall_mem_cons.mpr ⟨zq_c28, List.forall_mem_cons.mpr ⟨zq_c29, List.forall_mem_cons.mpr ⟨zq_c30, List.forall_mem_cons.mpr ⟨zq_c31, fun _ h => absurd h List.not_mem_nil⟩⟩⟩⟩⟩⟩⟩⟩⟩⟩⟩⟩⟩⟩⟩⟩
theorem zq_cg2 : ∀ q ∈ zq_MT2, zq_cw q ∈ zq_WG := List.forall_mem_cons.mpr ⟨zq_c32, List.forall_mem_cons.mpr ⟨zq_c33, List.forall_mem_cons.mpr ⟨zq_c34, List.forall_mem_cons.mpr ⟨zq_c35, List.forall_mem_cons.mpr ⟨zq_c36, List.forall_mem_cons.mpr ⟨zq_c37, List.forall_mem_cons.mpr ⟨zq_c38, List.forall_mem_cons.mpr ⟨zq_c39, List.forall_mem_cons.mpr ⟨zq_c40, List.forall_mem_cons.mpr ⟨zq_c41, List.forall_mem_cons.mpr ⟨zq_c42, List.forall_mem_cons.mpr ⟨zq_c43, List.forall_mem_cons.mpr ⟨zq_c44, List.forall_mem_cons.mpr ⟨zq_c45, List.forall_mem_cons.mpr ⟨zq_c46, List.forall_mem_cons.mpr ⟨zq_c47, fun _ h => absurd h List.not_mem_nil⟩⟩⟩⟩⟩⟩⟩⟩⟩⟩⟩⟩⟩⟩⟩⟩
theorem zq_cg3 : ∀ q ∈ zq_MT3, zq_cw q ∈ zq_WG := List.forall_mem_cons.mpr ⟨zq_c48, List.forall_mem_cons.mpr ⟨zq_c49, List.forall_mem_cons.mpr ⟨zq_c50, List.forall_mem_cons.mpr ⟨zq_c51, List.forall_mem_cons.mpr ⟨zq_c52, List.forall_mem_cons.mpr ⟨zq_c53, List.forall_mem_cons.mpr ⟨zq_c54, List.forall_mem_cons.mpr ⟨zq_c55, List.forall_mem_cons.mpr ⟨zq_c56, List.forall_mem_cons.mpr ⟨zq_c57, List.forall_mem_cons.mpr ⟨zq_c58, List.forall_mem_cons.mpr ⟨zq_c59, List.forall_mem_cons.mpr ⟨zq_c60, List.forall_mem_cons.mpr ⟨zq_c61, List.forall_mem_cons.mpr ⟨zq_c62, List.forall_mem_cons.mpr ⟨zq_c63, fun _ h => absurd h List.not_mem_nil⟩⟩⟩⟩⟩⟩⟩⟩⟩⟩⟩⟩⟩⟩⟩⟩
theorem zq_cg4 : ∀ q ∈ zq_MT4, zq_cw q ∈ zq_WG := List.forall_mem_cons.mpr ⟨zq_c64, List.forall_mem_cons.mpr ⟨zq_c65, List.forall_mem_cons.mpr ⟨zq_c66, List.forall_mem_cons.mpr ⟨zq_c67, List.forall_mem_cons.mpr ⟨zq_c68, List.forall_mem_cons.mpr ⟨zq_c69, List.forall_mem_cons.mpr ⟨zq_c70, List.forall_mem_cons.mpr ⟨zq_c71, List.forall_mem_cons.mpr ⟨zq_c72, List.forall_mem_cons.mpr ⟨zq_c73, List.forall_mem_cons.mpr ⟨zq_c74, List.forall_mem_cons.mpr ⟨zq_c75, List.forall_mem_cons.mpr ⟨zq_c76, List.forall_mem_cons.mpr ⟨zq_c77, List.forall_mem_cons.mpr ⟨zq_c78, List.forall_mem_cons.mpr ⟨zq_c79, fun _ h => absurd h List.not_mem_nil⟩⟩⟩⟩⟩⟩⟩⟩⟩⟩⟩⟩⟩⟩⟩⟩
theorem zq_cg5 : ∀ q ∈ zq_MT5, zq_cw q ∈ zq_WG := List.forall_mem_cons.mpr ⟨zq_c80, List.forall_mem_cons.mpr ⟨zq_c81, List.forall_mem_cons.mpr ⟨zq_c82, List.forall_mem_cons.mpr ⟨zq_c83, List.forall_mem_cons.mpr ⟨zq_c84, List.forall_mem_cons.mpr ⟨zq_c85, List.forall_mem_cons.mpr ⟨zq_c86, List.forall_mem_cons.mpr ⟨zq_c87, List.forall_mem_cons.mpr ⟨zq_c88, List.forall_mem_cons.mpr ⟨zq_c89, List.forall_mem_cons.mpr ⟨zq_c90, List.forall_mem_cons.mpr ⟨zq_c91, List.forall_mem_cons.mpr ⟨zq_c92, List.forall_mem_cons.mpr ⟨zq_c93, List.forall_mem_cons.mpr ⟨zq_c94, List.forall_mem_cons.mpr ⟨zq_c95, fun _ h => absurd h List.not_mem_nil⟩⟩⟩⟩⟩⟩⟩⟩⟩⟩⟩⟩⟩⟩⟩⟩
theorem zq_cg6 : ∀ q ∈ zq_MT6, zq_cw q ∈ zq_WG := List.forall_mem_cons.mpr ⟨zq_c96, List.forall_mem_cons.mpr ⟨zq_c97, List.forall_mem_cons.mpr ⟨zq_c98, List.forall_mem_cons.mpr ⟨zq_c99, List.forall_mem_cons.mpr ⟨zq_c100, List.forall_mem_cons.mpr ⟨zq_c101, List.forall_mem_cons.mpr ⟨zq_c102, List.forall_mem_cons.mpr ⟨zq_c103, List.forall_mem_cons.mpr ⟨zq_c104, List.forall_mem_cons.mpr ⟨zq_c105, List.forall_mem_cons.mpr ⟨zq_c106, List.forall_mem_cons.mpr ⟨zq_c107, List.forall_mem_cons.mpr ⟨zq_c108, List.forall_mem_cons.mpr ⟨zq_c109, List.forall_mem_cons.mpr ⟨zq_c110, List.forall_mem_cons.mpr ⟨zq_c111, fun _ h => absurd h List.not_mem_nil⟩⟩⟩⟩⟩⟩⟩⟩⟩⟩⟩⟩⟩⟩⟩⟩
theorem zq_cg7 : ∀ q ∈ zq_MT7, zq_cw q ∈ zq_WG := List.forall_mem_cons.mpr ⟨zq_c112, List.forall_mem_cons.mpr ⟨zq_c113, List.forall_mem_cons.mpr ⟨zq_c114, List.forall_mem_cons.mpr ⟨zq_c115, List.forall_mem_cons.mpr ⟨zq_c116, List.forall_mem_cons.mpr ⟨zq_c117, List.forall_mem_cons.mpr ⟨zq_c118, List.forall_mem_cons.mpr ⟨zq_c119, List.forall_mem_cons.mpr ⟨zq_c120, List.forall_mem_cons.mpr ⟨zq_c121, List.forall_mem_cons.mpr ⟨zq_c122, List.forall_mem_cons.mpr ⟨zq_c123, List.forall_mem_cons.mpr ⟨zq_c124, List.forall_mem_cons.mpr ⟨zq_c125, List.forall_mem_cons.mpr ⟨zq_c126, List.forall_mem_cons.mpr ⟨zq_c127, fun _ h => absurd h List.not_mem_nil⟩⟩⟩⟩⟩⟩⟩⟩⟩⟩⟩⟩⟩⟩⟩⟩
theorem zq_cg8 : ∀ q ∈ zq_MT8, zq_cw q ∈ zq_WG := List.forall_mem_cons.mpr ⟨zq_c128, List.forall_mem_cons.mpr ⟨zq_c129, List.forall_mem_cons.mpr ⟨zq_c130, List.forall_mem_cons.mpr ⟨zq_c131, List.forall_mem_cons.mpr ⟨zq_c132, List.forall_mem_cons.mpr ⟨zq_c133, List.forall_mem_cons.mpr ⟨zq_c134, List.forall_mem_cons.mpr ⟨zq_c135, List.forall_mem_cons.mpr ⟨zq_c136, List.forall_mem_cons.mpr ⟨zq_c137, List.forall_mem_cons.mpr ⟨zq_c138, List.forall_mem_cons.mpr ⟨zq_c139, List.forall_mem_cons.mpr ⟨zq_c140, List.forall_mem_cons.mpr ⟨zq_c141, List.forall_mem_cons.mpr ⟨zq_c142, List.forall_mem_cons.mpr ⟨zq_c143, fun _ h => absurd h List.not_mem_nil⟩⟩⟩⟩⟩⟩⟩⟩⟩⟩⟩⟩⟩⟩⟩⟩
theorem zq_cg9 : ∀ q ∈ zq_MT9, zq_cw q ∈ zq_WG := List.forall_mem_cons.mpr ⟨zq_c144, List.forall_mem_cons.mpr ⟨zq_c145, List.forall_mem_cons.mpr ⟨zq_c146, List.forall_mem_cons.mpr ⟨zq_c147, List.forall_mem_cons.mpr ⟨zq_c148, List.forall_mem_cons.mpr ⟨zq_c149, List.forall_mem_cons.mpr ⟨zq_c150, List.forall_mem_cons.mpr ⟨zq_c151, List.forall_mem_cons.mpr ⟨zq_c152, List.forall_mem_cons.mpr ⟨zq_c153, List.forall_mem_cons.mpr ⟨zq_c154, List.forall_mem_cons.mpr ⟨zq_c155, List.forall_mem_cons.mpr ⟨zq_c156, List.forall_mem_cons.mpr ⟨zq_c157, List.forall_mem_cons.mpr ⟨zq_c158, List.forall_mem_cons.mpr ⟨zq_c159, fun _ h => absurd h List.not_mem_nil⟩⟩⟩⟩⟩⟩⟩⟩⟩⟩⟩⟩⟩⟩⟩⟩
theorem zq_cg10 : ∀ q ∈ zq_MT10, zq_cw q ∈ zq_WG := List.forall_mem_cons.mpr ⟨zq_c160, List.forall_mem_cons.mpr ⟨zq_c161, List.forall_mem_cons.mpr ⟨zq_c162, List.forall_mem_cons.mpr ⟨zq_c163, List.forall_mem_cons.mpr ⟨zq_c164, List.forall_mem_cons.mpr ⟨zq_c165, List.forall_mem_cons.mpr ⟨zq_c166, List.forall_mem_cons.mpr ⟨zq_c167, List.forall_mem_cons.mpr ⟨zq_c168, List.forall_mem_cons.mpr ⟨zq_c169, List.forall_mem_cons.mpr ⟨zq_c170, List.forall_mem_cons.mpr ⟨zq_c171, List.forall_mem_cons.mpr ⟨zq_c172, List.forall_mem_cons.mpr ⟨zq_c173, List.forall_mem_cons.mpr ⟨zq_c174, List.forall_mem_cons.mpr ⟨zq_c175, fun _ h => absurd h List.not_mem_nil⟩⟩⟩⟩⟩⟩⟩⟩⟩⟩⟩⟩⟩⟩⟩⟩
theorem zq_cg11 : ∀ q ∈ zq_MT11, zq_cw q ∈ zq_WG := List.forall_mem_cons.mpr ⟨zq_c176, List.forall_mem_cons.mpr ⟨zq_c177, List.forall_mem_cons.mpr ⟨zq_c178, List.forall_mem_cons.mpr ⟨zq_c179, List.forall_mem_cons.mpr ⟨zq_c180, List.forall_mem_cons.mpr ⟨zq_c181, List.forall_mem_cons.mpr ⟨zq_c182, List.forall_mem_cons.mpr ⟨zq_c183, List.forall_mem_cons.mpr ⟨zq_c184, List.forall_mem_cons.mpr ⟨zq_c185, List.forall_mem_cons.mpr ⟨zq_c186, List.forall_mem_cons.mpr ⟨zq_c187, List.forall_mem_cons.mpr ⟨zq_c188, List.forall_mem_cons.mpr ⟨zq_c189, List.forall_mem_cons.mpr ⟨zq_c190, List.forall_mem_cons.mpr ⟨zq_c191, fun _ h => absurd h List.not_mem_nil⟩⟩⟩⟩⟩⟩⟩⟩⟩⟩⟩⟩⟩⟩⟩⟩
theorem zq_cg12 : ∀ q ∈ zq_MT12, zq_cw q ∈ zq_WG := List.forall_mem_cons.mpr ⟨zq_c192, List.forall_mem_cons.mpr ⟨zq_c193, List.forall_mem_cons.mpr ⟨zq_c194, List.forall_mem_cons.mpr ⟨zq_c195, List.forall_mem_cons.mpr ⟨zq_c196, List.forall_mem_cons.mpr ⟨zq_c197, List.forall_mem_cons.mpr ⟨zq_c198, List.forall_mem_cons.mpr ⟨zq_c199, List.forall_mem_cons.mpr ⟨zq_c200, List.forall_mem_cons.mpr ⟨zq_c201, List.forall_mem_cons.mpr ⟨zq_c202, List.forall_mem_cons.mpr ⟨zq_c203, List.forall_mem_cons.mpr ⟨zq_c204, List.forall_mem_cons.mpr ⟨zq_c205, List.forall_mem_cons.mpr ⟨zq_c206, List.forall_mem_cons.mpr ⟨zq_c207, fun _ h => absurd h List.not_mem_nil⟩⟩⟩⟩⟩⟩⟩⟩⟩⟩⟩⟩⟩⟩⟩⟩
theorem zq_cg13 : ∀ q ∈ zq_MT13, zq_cw q ∈ zq_WG := List.forall_mem_cons.mpr ⟨zq_c208, List.forall_mem_cons.mpr ⟨zq_c209, List.forall_mem_cons.mpr ⟨zq_c210, List.forall_mem_cons.mpr ⟨zq_c211, List.forall_mem_cons.mpr ⟨zq_c212, List.forall_mem_cons.mpr ⟨zq_c213, List.forall_mem_cons.mpr ⟨zq_c214, List.forall_mem_cons.mpr ⟨zq_c215, List.forall_mem_cons.mpr ⟨zq_c216, List.forall_mem_cons.mpr ⟨zq_c217, List.forall_mem_cons.mpr ⟨zq_c218, List.forall_mem_cons.mpr ⟨zq_c219, List.forall_mem_cons.mpr ⟨zq_c220, List.forall_mem_cons.mpr ⟨zq_c221, List.forall_mem_cons.mpr ⟨zq_c222, List.forall_mem_cons.mpr ⟨zq_c223, fun _ h => absurd h List.not_mem_nil⟩⟩⟩⟩⟩⟩⟩⟩⟩⟩⟩⟩⟩⟩⟩⟩
theorem zq_cg14 : ∀ q ∈ zq_MT14, zq_cw q ∈ zq_WG := List.forall_mem_cons.mpr ⟨zq_c224, List.forall_mem_cons.mpr ⟨zq_c225, List.forall_mem_cons.mpr ⟨zq_c226, List.forall_mem_cons.mpr ⟨zq_c227, List.forall_mem_cons.mpr ⟨zq_c228, List.forall_mem_cons.mpr ⟨zq_c229, List.forall_mem_cons.mpr ⟨zq_c230, List.forall_mem_cons.mpr ⟨zq_c231, List.forall_mem_cons.mpr ⟨zq_c232, List.forall_mem_cons.mpr ⟨zq_c233, List.forall_mem_cons.mpr ⟨zq_c234, List.forall_mem_cons.mpr ⟨zq_c235, List.forall_mem_cons.mpr ⟨zq_c236, List.forall_mem_cons.mpr ⟨zq_c237, List.forall_mem_cons.mpr ⟨zq_c238, List.forall_mem_cons.mpr ⟨zq_c239, fun _ h => absurd h List.not_mem_nil⟩⟩⟩⟩⟩⟩⟩⟩⟩⟩⟩⟩⟩⟩⟩⟩
theorem zq_cg15 : ∀ q ∈ zq_MT15, zq_cw q ∈ zq_WG := List.forall_mem_cons.mpr ⟨zq_c240, List.forall_mem_cons.mpr ⟨zq_c241, List.forall_mem_cons.mpr ⟨zq_c242, List.forall_mem_cons.mpr ⟨zq_c243, List.forall_mem_cons.mpr ⟨zq_c244, List.forall_mem_cons.mpr ⟨zq_c245, List.forall_mem_cons.mpr ⟨zq_c246, List.forall_mem_cons.mpr ⟨zq_c247, List.forall_mem_cons.mpr ⟨zq_c248, List.forall_mem_cons.mpr ⟨zq_c249, List.forall_mem_cons.mpr ⟨zq_c250, List.forall_mem_cons.mpr ⟨zq_c251, List.forall_mem_cons.mpr ⟨zq_c252, List.forall_mem_cons.mpr ⟨zq_c253, List.forall_mem_cons.mpr ⟨zq_c254, List.forall_mem_cons.mpr ⟨zq_c255, fun _ h => absurd h List.not_mem_nil⟩⟩⟩⟩⟩⟩⟩⟩⟩⟩⟩⟩⟩⟩⟩⟩
theorem zq_cg16 : ∀ q ∈ zq_MT16, zq_cw q ∈ zq_WG := List.forall_mem_cons.mpr ⟨zq_c256, List.forall_mem_cons.mpr ⟨zq_c257, List.forall_mem_cons.mpr ⟨zq_c258, List.forall_mem_cons.mpr ⟨zq_c259, List.forall_mem_cons.mpr ⟨zq_c260, List.forall_mem_cons.mpr ⟨zq_c261, List.forall_mem_cons.mpr ⟨zq_c262, List.forall_mem_cons.mpr ⟨zq_c263, List.forall_mem_cons.mpr ⟨zq_c264, List.forall_mem_cons.mpr ⟨zq_c265, List.forall_mem_cons.mpr ⟨zq_c266, fun _ h => absurd h List.not_mem_nil⟩⟩⟩⟩⟩⟩⟩⟩⟩⟩⟩
theorem zq_app {P : zq_I → Prop} {a b : List zq_I} (ha : ∀ q ∈ a, P q) (hb : ∀ q ∈ b, P q) : ∀ q ∈ a ++ b, P q := fun q h => (List.mem_append.mp h).elim (ha q) (hb q)
theorem zq_cok : ∀ q ∈ zq_MT, zq_cw q ∈ zq_WG := zq_app zq_cg0 (zq_app zq_cg1 (zq_app zq_cg2 (zq_app zq_cg3 (zq_app zq_cg4 (zq_app zq_cg5 (zq_app zq_cg6 (zq_app zq_cg7 (zq_app zq_cg8 (zq_app zq_cg9 (zq_app zq_cg10 (zq_app zq_cg11 (zq_app zq_cg12 (zq_app zq_cg13 (zq_app zq_cg14 (zq_app zq_cg15 (zq_cg16))))))))))))))))
/-- what else a call needs of a method: places of its words among the tables -/
def zq_mp : List (Nat × Nat × Nat) := [(114, 136, 0), (115, 144, 0), (116, 193, 0), (117, 229, 0), (118, 256, 0), (119, 301, 0), (120, 324, 0), (121, 339, 0), (122, 345, 0), (123, 454, 0), (116, 475, 476), (114, 479, 0), (114, 482, 0), (114, 540, 541), (115, 544, 545), (114, 549, 550), (121, 553, 554), (121, 558, 0), (122, 561, 562), (115, 566, 567), (115, 570, 571), (115, 575, 1), (115, 578, 0), (115, 581, 0), (121, 587, 2), (121, 593, 3), (115, 596, 597), (121, 602, 4), (115, 605, 606), (121, 609, 0), (121, 612, 613), (115, 616, 617), (115, 620, 621), (115, 628, 629), (115, 632, 633), (114, 636, 0), (121, 642, 5), (115, 645, 646), (115, 649, 650), (121, 656, 6), (122, 666, 667), (122, 671, 7), (122, 675, 8), (122, 679, 9), (122, 683, 10), (122, 687, 11), (122, 696, 12), (121, 706, 13), (121, 712, 14), (121, 722, 15), (121, 726, 16), (122, 729, 730), (121, 735, 17), (122, 739, 740), (122, 743, 0), (114, 746, 0), (127, 749, 0), (127, 752, 0), (121, 756, 18), (115, 759, 760), (117, 763, 764), (114, 767, 768), (123, 771, 772), (123, 777, 19), (123, 785, 20), (123, 789, 21), (123, 792, 0), (114, 801, 802), (121, 805, 806), (121, 810, 811), (121, 814, 815), (121, 818, 819), (114, 823, 824), (116, 828, 829), (114, 832, 833), (114, 837, 838), (121, 841, 842), (121, 846, 847), (114, 851, 852), (114, 857, 22), (116, 860, 861), (120, 864, 865), (120, 868, 869), (120, 873, 874), (114, 882, 883), (116, 886, 887), (116, 893, 894), (114, 897, 898), (116, 901, 902), (114, 905, 906), (116, 909, 910), (116, 913, 914), (121, 918, 919), (128, 922, 0), (121, 926, 927), (114, 930, 931), (114, 934, 935), (123, 938, 939), (123, 943, 23), (114, 953, 954), (114, 957, 958), (118, 961, 962), (118, 967, 24), (118, 971, 25), (114, 977, 978), (118, 981, 982), (114, 986, 987), (114, 990, 991), (118, 994, 995), (114, 998, 0), (118, 1003, 26), (118, 1007, 27), (118, 1010, 0), (114, 1014, 1015), (119, 1018, 1019), (119, 1025, 28), (119, 1028, 0), (121, 1032, 1033), (114, 1036, 1037), (114, 1040, 1041), (114, 1045, 29), (119, 1048, 1049), (128, 1052, 0), (114, 1060, 1061), (119, 1064, 1065), (119, 1069, 0), (114, 1073, 1074), (114, 1078, 1079), (114, 1083, 30), (117, 1086, 1087), (114, 1092, 31), (114, 1096, 0), (114, 1100, 1101), (114, 1105, 1106), (114, 1109, 1110), (114, 1114, 32), (114, 1119, 1120), (114, 1124, 33), (114, 1128, 34), (114, 1131, 1132), (114, 1136, 1137), (117, 1140, 1141), (114, 1145, 1146), (116, 1149, 1150), (114, 1157, 1158), (114, 1222, 0), (124, 1225, 1226), (124, 1229, 1230), (124, 1234, 36), (124, 1239, 0), (124, 1280, 37), (124, 1284, 38), (124, 1288, 39), (124, 1292, 40), (124, 1296, 41), (124, 1300, 42), (124, 1437, 1438), (124, 1442, 43), (124, 1445, 0), (124, 1449, 0), (124, 1452, 0), (124, 1457, 0), (124, 1461, 44), (124, 1465, 45), (124, 1469, 46), (124, 1473, 47), (124, 1477, 48), (124, 1481, 49), (124, 1485, 50), (124, 1489, 51), (124, 1493, 52), (124, 1497, 53), (124, 1501, 54), (124, 1505, 55), (124, 1509, 56), (124, 1512, 0), (124, 1516, 57), (124, 1520, 58), (124, 1524, 59), (124, 1528, 60), (124, 1532, 61), (124, 1536, 62), (124, 1540, 63), (124, 1544, 64), (124, 1548, 65), (124, 1552, 66), (124, 1556, 67), (124, 1559, 1560), (124, 1564, 68), (124, 1567, 1568), (124, 1572, 69), (124, 1576, 70), (124, 1580, 71), (124, 1584, 72), (124, 1588, 73), (124, 1592, 74), (124, 1596, 75), (124, 1599, 0), (124, 1603, 76), (124, 1606, 1607), (124, 1611, 77), (124, 1615, 78), (124, 1618, 1619), (124, 1622, 1623), (124, 1627, 79), (124, 1631, 80), (124, 1634, 1635), (124, 1639, 81), (124, 1643, 82), (124, 1647, 83), (124, 1651, 84), (124, 1658, 1659), (124, 1663, 85), (124, 1667, 86), (124, 1670, 1671), (124, 1674, 1675), (124, 1679, 87), (124, 1683, 88), (124, 1687, 89), (124, 1691, 90), (124, 1695, 91), (124, 1699, 92), (124, 1702, 1703), (124, 1706, 1707), (124, 1711, 93), (124, 1714, 1715), (124, 1718, 1719), (124, 1723, 94), (124, 1727, 95), (124, 1731, 96), (124, 1735, 97), (124, 1738, 1739), (124, 1743, 1744), (124, 1747, 1748), (124, 1752, 98), (124, 1755, 0), (124, 1758, 1759), (124, 1763, 99), (124, 1767, 100), (124, 1771, 101), (124, 1775, 102), (124, 1778, 1779), (124, 1782, 1783), (124, 1787, 103), (124, 1791, 104), (124, 1795, 105), (124, 1798, 1799), (124, 1802, 0), (124, 1805, 0), (124, 1808, 1809), (124, 1812, 1813), (124, 1817, 106), (124, 1821, 107), (124, 1824, 0), (124, 1827, 1828), (124, 1832, 1833), (124, 1836, 1837), (124, 1841, 108), (124, 1845, 109), (124, 1848, 1849), (124, 1853, 110), (124, 1857, 111), (124, 1860, 1861), (124, 1865, 112), (124, 1868, 1869), (124, 1872, 1873), (124, 1876, 1877)]
def zq_mchk (q : zq_I) (p : Nat × Nat × Nat) : Bool := plainName q.1.cls && decide (q.1.cls ≠ "java/lang/invoke/MethodHandle" ∧ q.1.cls ≠ "java/lang/invoke/VarHandle") && decide (q.1.cls = zq_R q.2.2.2.2.1) && zq_has p.1 (.initialized q.1.cls) && decide ((parseMethodDescriptor q.1.desc).map (fun d => d.parameters.length) = some (q.2.2.2.2.2.1 - (if q.2.2.2.2.2.2 = 0 then 0 else 1))) && (if q.2.2.2.2.2.2 = 0 then zq_has p.2.1 (.static q.1) else zq_has p.2.1 (.instanceMethod q.1)) && (if q.2.2.2.2.2.2 = 1 then zq_has p.2.2 (.selects q.1.cls q.1 q.1) else true) && decide (q.2.2.2.2.2.2 = 2 → q.1.name = "<init>" ∧ q.2.2.2.1 = none) && decide (q.2.2.1 ≤ 21) && decide (q.2.2.2.2.2.2 ≠ 0 → 1 ≤ q.2.2.2.2.2.1)
theorem zq_mk0 : ∀ i, i < 16 → zq_mchk (zq_MT0.getD i zq_m0) (zq_mp.getD (i + 0) (0, 0, 0)) = true := by decide +kernel
theorem zq_mk1 : ∀ i, i < 16 → zq_mchk (zq_MT1.getD i zq_m0) (zq_mp.getD (i + 16) (0, 0, 0)) = true := by decide +kernel
theorem zq_mk2 : ∀ i, i < 16 → zq_mchk (zq_MT2.getD i zq_m0) (zq_mp.getD (i + 32) (0, 0, 0)) = true := by decide +kernel
theorem zq_mk3 : ∀ i, i < 16 → zq_mchk (zq_MT3.getD i zq_m0) (zq_mp.getD (i + 48) (0, 0, 0)) = true := by decide +kernel
theorem zq_mk4 : ∀ i, i < 16 → zq_mchk (zq_MT4.getD i zq_m0) (zq_mp.getD (i + 64) (0, 0, 0)) = true := by decide +kernel
theorem zq_mk5 : ∀ i, i < 16 → zq_mchk (zq_MT5.getD i zq_m0) (zq_mp.getD (i + 80) (0, 0, 0)) = true := by decide +kernel
theorem zq_mk6 : ∀ i, i < 16 → zq_mchk (zq_MT6.getD i zq_m0) (zq_mp.getD (i + 96) (0, 0, 0)) = true := by decide +kernel
theorem zq_mk7 : ∀ i, i < 16 → zq_mchk (zq_MT7.getD i zq_m0) (zq_mp.getD (i + 112) (0, 0, 0)) = true := by decide +kernel
theorem zq_mk8 : ∀ i, i < 16 → zq_mchk (zq_MT8.getD i zq_m0) (zq_mp.getD (i + 128) (0, 0, 0)) = true := by decide +kernel
theorem zq_mk9 : ∀ i, i < 16 → zq_mchk (zq_MT9.getD i zq_m0) (zq_mp.getD (i + 144) (0, 0, 0)) = true := by decide +kernel
theorem zq_mk10 : ∀ i, i < 16 → zq_mchk (zq_MT10.getD i zq_m0) (zq_mp.getD (i + 160) (0, 0, 0)) = true := by decide +kernel
theorem zq_mk11 : ∀ i, i < 16 → zq_mchk (zq_MT11.getD i zq_m0) (zq_mp.getD (i + 176) (0, 0, 0)) = true := by decide +kernel
theorem zq_mk12 : ∀ i, i < 16 → zq_mchk (zq_MT12.getD i zq_m0) (zq_mp.getD (i + 192) (0, 0, 0)) = true := by decide +kernel
theorem zq_mk13 : ∀ i, i < 16 → zq_mchk (zq_MT13.getD i zq_m0) (zq_mp.getD (i + 208) (0, 0, 0)) = true := by decide +kernel
theorem zq_mk14 : ∀ i, i < 16 → zq_mchk (zq_MT14.getD i zq_m0) (zq_mp.getD (i + 224) (0, 0, 0)) = true := by decide +kernel
theorem zq_mk15 : ∀ i, i < 16 → zq_mchk (zq_MT15.getD i zq_m0) (zq_mp.getD (i + 240) (0, 0, 0)) = true := by decide +kernel
theorem zq_mk16 : ∀ i, i < 11 → zq_mchk (zq_MT16.getD i zq_m0) (zq_mp.getD (i + 256) (0, 0, 0)) = true := by decide +kernel
end
