section
-- ===== PART A: goes FIRST, ahead of the names: the tables' words, and 'selects' of the private methods out of them =====
/-- a private method of a class that the tables say can be made, by its rows of tables_1 -/
def lw_okq (q : MethodName × Nat) : Prop := (q.1.cls ≠ "java/lang/invoke/MethodHandle" ∧ q.1.cls ≠ "java/lang/invoke/VarHandle") ∧ Cond.instantiable q.1.cls q.2 ∈ tables_1 ∧ Cond.privateMethod q.1 ∈ tables_1 ∧ Cond.instanceMethod q.1 ∈ tables_1
theorem lw_p0 : lw_okq (⟨"RaffleArmy$Army", "clear", "()V"⟩, 19) := ⟨⟨by decide +kernel, by decide +kernel⟩, List.mem_of_getElem? (i := 224) (by decide +kernel), List.mem_of_getElem? (i := 444) (by decide +kernel), List.mem_of_getElem? (i := 445) (by decide +kernel)⟩
theorem lw_p1 : lw_okq (⟨"RaffleArmy$Tape", "signAt", "(I)C"⟩, 10) := ⟨⟨by decide +kernel, by decide +kernel⟩, List.mem_of_getElem? (i := 29) (by decide +kernel), List.mem_of_getElem? (i := 461) (by decide +kernel), List.mem_of_getElem? (i := 462) (by decide +kernel)⟩
theorem lw_p2 : lw_okq (⟨"RaffleArmy$Army", "readLine", "(LRaffleArmy$Tape;)Z"⟩, 19) := ⟨⟨by decide +kernel, by decide +kernel⟩, List.mem_of_getElem? (i := 224) (by decide +kernel), List.mem_of_getElem? (i := 473) (by decide +kernel), List.mem_of_getElem? (i := 474) (by decide +kernel)⟩
theorem lw_p3 : lw_okq (⟨"RaffleArmy$Army", "readPost", "(LRaffleArmy$Tape;)Z"⟩, 19) := ⟨⟨by decide +kernel, by decide +kernel⟩, List.mem_of_getElem? (i := 224) (by decide +kernel), List.mem_of_getElem? (i := 479) (by decide +kernel), List.mem_of_getElem? (i := 480) (by decide +kernel)⟩
theorem lw_p4 : lw_okq (⟨"RaffleArmy$Army", "takeNewName", "(LRaffleArmy$Tape;)Z"⟩, 19) := ⟨⟨by decide +kernel, by decide +kernel⟩, List.mem_of_getElem? (i := 224) (by decide +kernel), List.mem_of_getElem? (i := 488) (by decide +kernel), List.mem_of_getElem? (i := 489) (by decide +kernel)⟩
theorem lw_p5 : lw_okq (⟨"RaffleArmy$Army", "readUnder", "(LRaffleArmy$Tape;)Z"⟩, 19) := ⟨⟨by decide +kernel, by decide +kernel⟩, List.mem_of_getElem? (i := 224) (by decide +kernel), List.mem_of_getElem? (i := 528) (by decide +kernel), List.mem_of_getElem? (i := 529) (by decide +kernel)⟩
theorem lw_p6 : lw_okq (⟨"RaffleArmy$Army", "readMan", "(LRaffleArmy$Tape;)Z"⟩, 19) := ⟨⟨by decide +kernel, by decide +kernel⟩, List.mem_of_getElem? (i := 224) (by decide +kernel), List.mem_of_getElem? (i := 542) (by decide +kernel), List.mem_of_getElem? (i := 543) (by decide +kernel)⟩
theorem lw_p7 : lw_okq (⟨"RaffleArmy$Laws", "readTests", "(LRaffleArmy$Tape;II)Z"⟩, 6) := ⟨⟨by decide +kernel, by decide +kernel⟩, List.mem_of_getElem? (i := 230) (by decide +kernel), List.mem_of_getElem? (i := 557) (by decide +kernel), List.mem_of_getElem? (i := 558) (by decide +kernel)⟩
theorem lw_p8 : lw_okq (⟨"RaffleArmy$Laws", "readTest", "(LRaffleArmy$Tape;II)Z"⟩, 6) := ⟨⟨by decide +kernel, by decide +kernel⟩, List.mem_of_getElem? (i := 230) (by decide +kernel), List.mem_of_getElem? (i := 561) (by decide +kernel), List.mem_of_getElem? (i := 562) (by decide +kernel)⟩
theorem lw_p9 : lw_okq (⟨"RaffleArmy$Laws", "readSum", "(LRaffleArmy$Tape;II)Z"⟩, 6) := ⟨⟨by decide +kernel, by decide +kernel⟩, List.mem_of_getElem? (i := 230) (by decide +kernel), List.mem_of_getElem? (i := 565) (by decide +kernel), List.mem_of_getElem? (i := 566) (by decide +kernel)⟩
theorem lw_p10 : lw_okq (⟨"RaffleArmy$Laws", "readProduct", "(LRaffleArmy$Tape;II)Z"⟩, 6) := ⟨⟨by decide +kernel, by decide +kernel⟩, List.mem_of_getElem? (i := 230) (by decide +kernel), List.mem_of_getElem? (i := 569) (by decide +kernel), List.mem_of_getElem? (i := 570) (by decide +kernel)⟩
theorem lw_p11 : lw_okq (⟨"RaffleArmy$Laws", "readPart", "(LRaffleArmy$Tape;II)Z"⟩, 6) := ⟨⟨by decide +kernel, by decide +kernel⟩, List.mem_of_getElem? (i := 230) (by decide +kernel), List.mem_of_getElem? (i := 573) (by decide +kernel), List.mem_of_getElem? (i := 574) (by decide +kernel)⟩
theorem lw_p12 : lw_okq (⟨"RaffleArmy$Laws", "add", "(I)V"⟩, 6) := ⟨⟨by decide +kernel, by decide +kernel⟩, List.mem_of_getElem? (i := 230) (by decide +kernel), List.mem_of_getElem? (i := 582) (by decide +kernel), List.mem_of_getElem? (i := 583) (by decide +kernel)⟩
theorem lw_p13 : lw_okq (⟨"RaffleArmy$Army", "readOnce", "(LRaffleArmy$Tape;LRaffleArmy$Word;)Z"⟩, 19) := ⟨⟨by decide +kernel, by decide +kernel⟩, List.mem_of_getElem? (i := 224) (by decide +kernel), List.mem_of_getElem? (i := 592) (by decide +kernel), List.mem_of_getElem? (i := 593) (by decide +kernel)⟩
theorem lw_p14 : lw_okq (⟨"RaffleArmy$Army", "readFront", "(LRaffleArmy$Tape;)Z"⟩, 19) := ⟨⟨by decide +kernel, by decide +kernel⟩, List.mem_of_getElem? (i := 224) (by decide +kernel), List.mem_of_getElem? (i := 598) (by decide +kernel), List.mem_of_getElem? (i := 599) (by decide +kernel)⟩
theorem lw_p15 : lw_okq (⟨"RaffleArmy$Army", "fillTables", "()V"⟩, 19) := ⟨⟨by decide +kernel, by decide +kernel⟩, List.mem_of_getElem? (i := 224) (by decide +kernel), List.mem_of_getElem? (i := 608) (by decide +kernel), List.mem_of_getElem? (i := 609) (by decide +kernel)⟩
def lw_privs_1 : List (MethodName × Nat) := [(⟨"RaffleArmy$Army", "clear", "()V"⟩, 19), (⟨"RaffleArmy$Tape", "signAt", "(I)C"⟩, 10), (⟨"RaffleArmy$Army", "readLine", "(LRaffleArmy$Tape;)Z"⟩, 19), (⟨"RaffleArmy$Army", "readPost", "(LRaffleArmy$Tape;)Z"⟩, 19), (⟨"RaffleArmy$Army", "takeNewName", "(LRaffleArmy$Tape;)Z"⟩, 19), (⟨"RaffleArmy$Army", "readUnder", "(LRaffleArmy$Tape;)Z"⟩, 19), (⟨"RaffleArmy$Army", "readMan", "(LRaffleArmy$Tape;)Z"⟩, 19), (⟨"RaffleArmy$Laws", "readTests", "(LRaffleArmy$Tape;II)Z"⟩, 6), (⟨"RaffleArmy$Laws", "readTest", "(LRaffleArmy$Tape;II)Z"⟩, 6), (⟨"RaffleArmy$Laws", "readSum", "(LRaffleArmy$Tape;II)Z"⟩, 6), (⟨"RaffleArmy$Laws", "readProduct", "(LRaffleArmy$Tape;II)Z"⟩, 6), (⟨"RaffleArmy$Laws", "readPart", "(LRaffleArmy$Tape;II)Z"⟩, 6), (⟨"RaffleArmy$Laws", "add", "(I)V"⟩, 6), (⟨"RaffleArmy$Army", "readOnce", "(LRaffleArmy$Tape;LRaffleArmy$Word;)Z"⟩, 19), (⟨"RaffleArmy$Army", "readFront", "(LRaffleArmy$Tape;)Z"⟩, 19), (⟨"RaffleArmy$Army", "fillTables", "()V"⟩, 19)]
theorem lw_r1 : ∀ q ∈ lw_privs_1, lw_okq q := List.forall_mem_cons.mpr ⟨lw_p0, List.forall_mem_cons.mpr ⟨lw_p1, List.forall_mem_cons.mpr ⟨lw_p2, List.forall_mem_cons.mpr ⟨lw_p3, List.forall_mem_cons.mpr ⟨lw_p4, List.forall_mem_cons.mpr ⟨lw_p5, List.forall_mem_cons.mpr ⟨lw_p6, List.forall_mem_cons.mpr ⟨lw_p7, List.forall_mem_cons.mpr ⟨lw_p8, List.forall_mem_cons.mpr ⟨lw_p9, List.forall_mem_cons.mpr ⟨lw_p10, List.forall_mem_cons.mpr ⟨lw_p11, List.forall_mem_cons.mpr ⟨lw_p12, List.forall_mem_cons.mpr ⟨lw_p13, List.forall_mem_cons.mpr ⟨lw_p14, List.forall_mem_cons.mpr ⟨lw_p15, fun _ h => absurd h List.not_mem_nil⟩⟩⟩⟩⟩⟩⟩⟩⟩⟩⟩⟩⟩⟩⟩⟩
theorem lw_p16 : lw_okq (⟨"RaffleArmy$Army", "lawOfSkill", "(II)I"⟩, 19) := ⟨⟨by decide +kernel, by decide +kernel⟩, List.mem_of_getElem? (i := 224) (by decide +kernel), List.mem_of_getElem? (i := 612) (by decide +kernel), List.mem_of_getElem? (i := 613) (by decide +kernel)⟩
theorem lw_p17 : lw_okq (⟨"RaffleArmy$Army", "lawOf", "(III)I"⟩, 19) := ⟨⟨by decide +kernel, by decide +kernel⟩, List.mem_of_getElem? (i := 224) (by decide +kernel), List.mem_of_getElem? (i := 621) (by decide +kernel), List.mem_of_getElem? (i := 622) (by decide +kernel)⟩
theorem lw_p18 : lw_okq (⟨"RaffleArmy$Army", "lawOfWorth", "(II)I"⟩, 19) := ⟨⟨by decide +kernel, by decide +kernel⟩, List.mem_of_getElem? (i := 224) (by decide +kernel), List.mem_of_getElem? (i := 642) (by decide +kernel), List.mem_of_getElem? (i := 643) (by decide +kernel)⟩
theorem lw_p19 : lw_okq (⟨"RaffleArmy$War", "readLine", "(LRaffleArmy$Tape;LRaffleArmy$Army;)Z"⟩, 5) := ⟨⟨by decide +kernel, by decide +kernel⟩, List.mem_of_getElem? (i := 339) (by decide +kernel), List.mem_of_getElem? (i := 663) (by decide +kernel), List.mem_of_getElem? (i := 664) (by decide +kernel)⟩
theorem lw_p20 : lw_okq (⟨"RaffleArmy$War", "readRest", "(LRaffleArmy$Tape;LRaffleArmy$Army;I)Z"⟩, 5) := ⟨⟨by decide +kernel, by decide +kernel⟩, List.mem_of_getElem? (i := 339) (by decide +kernel), List.mem_of_getElem? (i := 671) (by decide +kernel), List.mem_of_getElem? (i := 672) (by decide +kernel)⟩
theorem lw_p21 : lw_okq (⟨"RaffleArmy$War", "readSell", "(LRaffleArmy$Tape;LRaffleArmy$Army;)Z"⟩, 5) := ⟨⟨by decide +kernel, by decide +kernel⟩, List.mem_of_getElem? (i := 339) (by decide +kernel), List.mem_of_getElem? (i := 675) (by decide +kernel), List.mem_of_getElem? (i := 676) (by decide +kernel)⟩
theorem lw_p22 : lw_okq (⟨"RaffleArmy", "remember", "()V"⟩, 18) := ⟨⟨by decide +kernel, by decide +kernel⟩, List.mem_of_getElem? (i := 21) (by decide +kernel), List.mem_of_getElem? (i := 743) (by decide +kernel), List.mem_of_getElem? (i := 744) (by decide +kernel)⟩
theorem lw_p23 : lw_okq (⟨"RaffleArmy$War", "runLine", "(ILRaffleArmy$Army;LRaffleArmy$State;LRaffleArmy$Raffle;)Z"⟩, 5) := ⟨⟨by decide +kernel, by decide +kernel⟩, List.mem_of_getElem? (i := 339) (by decide +kernel), List.mem_of_getElem? (i := 829) (by decide +kernel), List.mem_of_getElem? (i := 830) (by decide +kernel)⟩
theorem lw_p24 : lw_okq (⟨"RaffleArmy$Ways", "place", "(LRaffleArmy$Army;III)V"⟩, 11) := ⟨⟨by decide +kernel, by decide +kernel⟩, List.mem_of_getElem? (i := 141) (by decide +kernel), List.mem_of_getElem? (i := 853) (by decide +kernel), List.mem_of_getElem? (i := 854) (by decide +kernel)⟩
theorem lw_p25 : lw_okq (⟨"RaffleArmy$Ways", "settle", "(LRaffleArmy$Army;)V"⟩, 11) := ⟨⟨by decide +kernel, by decide +kernel⟩, List.mem_of_getElem? (i := 141) (by decide +kernel), List.mem_of_getElem? (i := 857) (by decide +kernel), List.mem_of_getElem? (i := 858) (by decide +kernel)⟩
theorem lw_p26 : lw_okq (⟨"RaffleArmy$Ways", "spell", "(II)V"⟩, 11) := ⟨⟨by decide +kernel, by decide +kernel⟩, List.mem_of_getElem? (i := 141) (by decide +kernel), List.mem_of_getElem? (i := 889) (by decide +kernel), List.mem_of_getElem? (i := 890) (by decide +kernel)⟩
theorem lw_p27 : lw_okq (⟨"RaffleArmy$Ways", "reached", "(LRaffleArmy$Army;II)J"⟩, 11) := ⟨⟨by decide +kernel, by decide +kernel⟩, List.mem_of_getElem? (i := 141) (by decide +kernel), List.mem_of_getElem? (i := 893) (by decide +kernel), List.mem_of_getElem? (i := 894) (by decide +kernel)⟩
theorem lw_p28 : lw_okq (⟨"RaffleArmy$Trade", "swapRing", "(LRaffleArmy$Army;LRaffleArmy$State;II)I"⟩, 5) := ⟨⟨by decide +kernel, by decide +kernel⟩, List.mem_of_getElem? (i := 186) (by decide +kernel), List.mem_of_getElem? (i := 911) (by decide +kernel), List.mem_of_getElem? (i := 912) (by decide +kernel)⟩
theorem lw_p29 : lw_okq (⟨"RaffleArmy", "canPool", "(I)Z"⟩, 18) := ⟨⟨by decide +kernel, by decide +kernel⟩, List.mem_of_getElem? (i := 21) (by decide +kernel), List.mem_of_getElem? (i := 931) (by decide +kernel), List.mem_of_getElem? (i := 932) (by decide +kernel)⟩
theorem lw_p30 : lw_okq (⟨"RaffleArmy", "canWeigh", "(II)Z"⟩, 18) := ⟨⟨by decide +kernel, by decide +kernel⟩, List.mem_of_getElem? (i := 21) (by decide +kernel), List.mem_of_getElem? (i := 969) (by decide +kernel), List.mem_of_getElem? (i := 970) (by decide +kernel)⟩
theorem lw_p31 : lw_okq (⟨"RaffleArmy", "chance", "(III)I"⟩, 18) := ⟨⟨by decide +kernel, by decide +kernel⟩, List.mem_of_getElem? (i := 21) (by decide +kernel), List.mem_of_getElem? (i := 978) (by decide +kernel), List.mem_of_getElem? (i := 979) (by decide +kernel)⟩
def lw_privs_2 : List (MethodName × Nat) := [(⟨"RaffleArmy$Army", "lawOfSkill", "(II)I"⟩, 19), (⟨"RaffleArmy$Army", "lawOf", "(III)I"⟩, 19), (⟨"RaffleArmy$Army", "lawOfWorth", "(II)I"⟩, 19), (⟨"RaffleArmy$War", "readLine", "(LRaffleArmy$Tape;LRaffleArmy$Army;)Z"⟩, 5), (⟨"RaffleArmy$War", "readRest", "(LRaffleArmy$Tape;LRaffleArmy$Army;I)Z"⟩, 5), (⟨"RaffleArmy$War", "readSell", "(LRaffleArmy$Tape;LRaffleArmy$Army;)Z"⟩, 5), (⟨"RaffleArmy", "remember", "()V"⟩, 18), (⟨"RaffleArmy$War", "runLine", "(ILRaffleArmy$Army;LRaffleArmy$State;LRaffleArmy$Raffle;)Z"⟩, 5), (⟨"RaffleArmy$Ways", "place", "(LRaffleArmy$Army;III)V"⟩, 11), (⟨"RaffleArmy$Ways", "settle", "(LRaffleArmy$Army;)V"⟩, 11), (⟨"RaffleArmy$Ways", "spell", "(II)V"⟩, 11), (⟨"RaffleArmy$Ways", "reached", "(LRaffleArmy$Army;II)J"⟩, 11), (⟨"RaffleArmy$Trade", "swapRing", "(LRaffleArmy$Army;LRaffleArmy$State;II)I"⟩, 5), (⟨"RaffleArmy", "canPool", "(I)Z"⟩, 18), (⟨"RaffleArmy", "canWeigh", "(II)Z"⟩, 18), (⟨"RaffleArmy", "chance", "(III)I"⟩, 18)]
theorem lw_r2 : ∀ q ∈ lw_privs_2, lw_okq q := List.forall_mem_cons.mpr ⟨lw_p16, List.forall_mem_cons.mpr ⟨lw_p17, List.forall_mem_cons.mpr ⟨lw_p18, List.forall_mem_cons.mpr ⟨lw_p19, List.forall_mem_cons.mpr ⟨lw_p20, List.forall_mem_cons.mpr ⟨lw_p21, List.forall_mem_cons.mpr ⟨lw_p22, List.forall_mem_cons.mpr ⟨lw_p23, List.forall_mem_cons.mpr ⟨lw_p24, List.forall_mem_cons.mpr ⟨lw_p25, List.forall_mem_cons.mpr ⟨lw_p26, List.forall_mem_cons.mpr ⟨lw_p27, List.forall_mem_cons.mpr ⟨lw_p28, List.forall_mem_cons.mpr ⟨lw_p29, List.forall_mem_cons.mpr ⟨lw_p30, List.forall_mem_cons.mpr ⟨lw_p31, fun _ h => absurd h List.not_mem_nil⟩⟩⟩⟩⟩⟩⟩⟩⟩⟩⟩⟩⟩⟩⟩⟩
theorem lw_p32 : lw_okq (⟨"RaffleArmy", "rowsSeen", "()I"⟩, 18) := ⟨⟨by decide +kernel, by decide +kernel⟩, List.mem_of_getElem? (i := 21) (by decide +kernel), List.mem_of_getElem? (i := 1000) (by decide +kernel), List.mem_of_getElem? (i := 1001) (by decide +kernel)⟩
theorem lw_p33 : lw_okq (⟨"RaffleArmy", "fillDelays", "(I)V"⟩, 18) := ⟨⟨by decide +kernel, by decide +kernel⟩, List.mem_of_getElem? (i := 21) (by decide +kernel), List.mem_of_getElem? (i := 1010) (by decide +kernel), List.mem_of_getElem? (i := 1011) (by decide +kernel)⟩
theorem lw_p34 : lw_okq (⟨"RaffleArmy", "firstDelaying", "(I)I"⟩, 18) := ⟨⟨by decide +kernel, by decide +kernel⟩, List.mem_of_getElem? (i := 21) (by decide +kernel), List.mem_of_getElem? (i := 1014) (by decide +kernel), List.mem_of_getElem? (i := 1015) (by decide +kernel)⟩
theorem lw_p35 : lw_okq (⟨"java/lang/Throwable", "fillInStackTrace", "(I)Ljava/lang/Throwable;"⟩, 6) := ⟨⟨by decide +kernel, by decide +kernel⟩, List.mem_of_getElem? (i := 1084) (by decide +kernel), List.mem_of_getElem? (i := 1082) (by decide +kernel), List.mem_of_getElem? (i := 1083) (by decide +kernel)⟩
theorem lw_p36 : lw_okq (⟨"RaffleArmyModel", "lay", "(J)V"⟩, 44) := ⟨⟨by decide +kernel, by decide +kernel⟩, List.mem_of_getElem? (i := 1122) (by decide +kernel), List.mem_of_getElem? (i := 1120) (by decide +kernel), List.mem_of_getElem? (i := 1121) (by decide +kernel)⟩
theorem lw_p37 : lw_okq (⟨"RaffleArmyModel", "standsAsAlways", "(I)V"⟩, 44) := ⟨⟨by decide +kernel, by decide +kernel⟩, List.mem_of_getElem? (i := 1122) (by decide +kernel), List.mem_of_getElem? (i := 1166) (by decide +kernel), List.mem_of_getElem? (i := 1167) (by decide +kernel)⟩
theorem lw_p38 : lw_okq (⟨"RaffleArmyModel", "begins", "()V"⟩, 44) := ⟨⟨by decide +kernel, by decide +kernel⟩, List.mem_of_getElem? (i := 1122) (by decide +kernel), List.mem_of_getElem? (i := 1170) (by decide +kernel), List.mem_of_getElem? (i := 1171) (by decide +kernel)⟩
theorem lw_p39 : lw_okq (⟨"RaffleArmyModel", "starts", "(I)V"⟩, 44) := ⟨⟨by decide +kernel, by decide +kernel⟩, List.mem_of_getElem? (i := 1122) (by decide +kernel), List.mem_of_getElem? (i := 1174) (by decide +kernel), List.mem_of_getElem? (i := 1175) (by decide +kernel)⟩
theorem lw_p40 : lw_okq (⟨"RaffleArmyModel", "posts", "()I"⟩, 44) := ⟨⟨by decide +kernel, by decide +kernel⟩, List.mem_of_getElem? (i := 1122) (by decide +kernel), List.mem_of_getElem? (i := 1178) (by decide +kernel), List.mem_of_getElem? (i := 1179) (by decide +kernel)⟩
theorem lw_p41 : lw_okq (⟨"RaffleArmyModel", "men", "()I"⟩, 44) := ⟨⟨by decide +kernel, by decide +kernel⟩, List.mem_of_getElem? (i := 1122) (by decide +kernel), List.mem_of_getElem? (i := 1182) (by decide +kernel), List.mem_of_getElem? (i := 1183) (by decide +kernel)⟩
theorem lw_p42 : lw_okq (⟨"RaffleArmyModel", "manOf", "(II)I"⟩, 44) := ⟨⟨by decide +kernel, by decide +kernel⟩, List.mem_of_getElem? (i := 1122) (by decide +kernel), List.mem_of_getElem? (i := 1186) (by decide +kernel), List.mem_of_getElem? (i := 1187) (by decide +kernel)⟩
theorem lw_p43 : lw_okq (⟨"RaffleArmyModel", "cutAll", "()V"⟩, 44) := ⟨⟨by decide +kernel, by decide +kernel⟩, List.mem_of_getElem? (i := 1122) (by decide +kernel), List.mem_of_getElem? (i := 1328) (by decide +kernel), List.mem_of_getElem? (i := 1329) (by decide +kernel)⟩
theorem lw_p44 : lw_okq (⟨"RaffleArmyModel", "isWord", "(I)Z"⟩, 44) := ⟨⟨by decide +kernel, by decide +kernel⟩, List.mem_of_getElem? (i := 1122) (by decide +kernel), List.mem_of_getElem? (i := 1347) (by decide +kernel), List.mem_of_getElem? (i := 1348) (by decide +kernel)⟩
theorem lw_p45 : lw_okq (⟨"RaffleArmyModel", "readPost", "()V"⟩, 44) := ⟨⟨by decide +kernel, by decide +kernel⟩, List.mem_of_getElem? (i := 1122) (by decide +kernel), List.mem_of_getElem? (i := 1351) (by decide +kernel), List.mem_of_getElem? (i := 1352) (by decide +kernel)⟩
theorem lw_p46 : lw_okq (⟨"RaffleArmyModel", "wrong", "(I)V"⟩, 44) := ⟨⟨by decide +kernel, by decide +kernel⟩, List.mem_of_getElem? (i := 1122) (by decide +kernel), List.mem_of_getElem? (i := 1355) (by decide +kernel), List.mem_of_getElem? (i := 1356) (by decide +kernel)⟩
theorem lw_p47 : lw_okq (⟨"RaffleArmyModel", "readName", "(I)V"⟩, 44) := ⟨⟨by decide +kernel, by decide +kernel⟩, List.mem_of_getElem? (i := 1122) (by decide +kernel), List.mem_of_getElem? (i := 1359) (by decide +kernel), List.mem_of_getElem? (i := 1360) (by decide +kernel)⟩
def lw_privs_3 : List (MethodName × Nat) := [(⟨"RaffleArmy", "rowsSeen", "()I"⟩, 18), (⟨"RaffleArmy", "fillDelays", "(I)V"⟩, 18), (⟨"RaffleArmy", "firstDelaying", "(I)I"⟩, 18), (⟨"java/lang/Throwable", "fillInStackTrace", "(I)Ljava/lang/Throwable;"⟩, 6), (⟨"RaffleArmyModel", "lay", "(J)V"⟩, 44), (⟨"RaffleArmyModel", "standsAsAlways", "(I)V"⟩, 44), (⟨"RaffleArmyModel", "begins", "()V"⟩, 44), (⟨"RaffleArmyModel", "starts", "(I)V"⟩, 44), (⟨"RaffleArmyModel", "posts", "()I"⟩, 44), (⟨"RaffleArmyModel", "men", "()I"⟩, 44), (⟨"RaffleArmyModel", "manOf", "(II)I"⟩, 44), (⟨"RaffleArmyModel", "cutAll", "()V"⟩, 44), (⟨"RaffleArmyModel", "isWord", "(I)Z"⟩, 44), (⟨"RaffleArmyModel", "readPost", "()V"⟩, 44), (⟨"RaffleArmyModel", "wrong", "(I)V"⟩, 44), (⟨"RaffleArmyModel", "readName", "(I)V"⟩, 44)]
theorem lw_r3 : ∀ q ∈ lw_privs_3, lw_okq q := List.forall_mem_cons.mpr ⟨lw_p32, List.forall_mem_cons.mpr ⟨lw_p33, List.forall_mem_cons.mpr ⟨lw_p34, List.forall_mem_cons.mpr ⟨lw_p35, List.forall_mem_cons.mpr ⟨lw_p36, List.forall_mem_cons.mpr ⟨lw_p37, List.forall_mem_cons.mpr ⟨lw_p38, List.forall_mem_cons.mpr ⟨lw_p39, List.forall_mem_cons.mpr ⟨lw_p40, List.forall_mem_cons.mpr ⟨lw_p41, List.forall_mem_cons.mpr ⟨lw_p42, List.forall_mem_cons.mpr ⟨lw_p43, List.forall_mem_cons.mpr ⟨lw_p44, List.forall_mem_cons.mpr ⟨lw_p45, List.forall_mem_cons.mpr ⟨lw_p46, List.forall_mem_cons.mpr ⟨lw_p47, fun _ h => absurd h List.not_mem_nil⟩⟩⟩⟩⟩⟩⟩⟩⟩⟩⟩⟩⟩⟩⟩⟩
theorem lw_p48 : lw_okq (⟨"RaffleArmyModel", "isName", "()Z"⟩, 44) := ⟨⟨by decide +kernel, by decide +kernel⟩, List.mem_of_getElem? (i := 1122) (by decide +kernel), List.mem_of_getElem? (i := 1363) (by decide +kernel), List.mem_of_getElem? (i := 1364) (by decide +kernel)⟩
theorem lw_p49 : lw_okq (⟨"RaffleArmyModel", "wordHere", "(II)I"⟩, 44) := ⟨⟨by decide +kernel, by decide +kernel⟩, List.mem_of_getElem? (i := 1122) (by decide +kernel), List.mem_of_getElem? (i := 1367) (by decide +kernel), List.mem_of_getElem? (i := 1368) (by decide +kernel)⟩
theorem lw_p50 : lw_okq (⟨"RaffleArmyModel", "find", "(Z)I"⟩, 44) := ⟨⟨by decide +kernel, by decide +kernel⟩, List.mem_of_getElem? (i := 1122) (by decide +kernel), List.mem_of_getElem? (i := 1371) (by decide +kernel), List.mem_of_getElem? (i := 1372) (by decide +kernel)⟩
theorem lw_p51 : lw_okq (⟨"RaffleArmyModel", "takeOne", "(II)I"⟩, 44) := ⟨⟨by decide +kernel, by decide +kernel⟩, List.mem_of_getElem? (i := 1122) (by decide +kernel), List.mem_of_getElem? (i := 1375) (by decide +kernel), List.mem_of_getElem? (i := 1376) (by decide +kernel)⟩
theorem lw_p52 : lw_okq (⟨"RaffleArmyModel", "takeAfter", "(III)I"⟩, 44) := ⟨⟨by decide +kernel, by decide +kernel⟩, List.mem_of_getElem? (i := 1122) (by decide +kernel), List.mem_of_getElem? (i := 1379) (by decide +kernel), List.mem_of_getElem? (i := 1380) (by decide +kernel)⟩
theorem lw_p53 : lw_okq (⟨"RaffleArmyModel", "takeWord", "(I)V"⟩, 44) := ⟨⟨by decide +kernel, by decide +kernel⟩, List.mem_of_getElem? (i := 1122) (by decide +kernel), List.mem_of_getElem? (i := 1383) (by decide +kernel), List.mem_of_getElem? (i := 1384) (by decide +kernel)⟩
theorem lw_p54 : lw_okq (⟨"RaffleArmyModel", "hasWord", "(I)Z"⟩, 44) := ⟨⟨by decide +kernel, by decide +kernel⟩, List.mem_of_getElem? (i := 1122) (by decide +kernel), List.mem_of_getElem? (i := 1387) (by decide +kernel), List.mem_of_getElem? (i := 1388) (by decide +kernel)⟩
theorem lw_p55 : lw_okq (⟨"RaffleArmyModel", "takeNumber", "(II)I"⟩, 44) := ⟨⟨by decide +kernel, by decide +kernel⟩, List.mem_of_getElem? (i := 1122) (by decide +kernel), List.mem_of_getElem? (i := 1391) (by decide +kernel), List.mem_of_getElem? (i := 1392) (by decide +kernel)⟩
theorem lw_p56 : lw_okq (⟨"RaffleArmyModel", "toldHere", "(ZII)I"⟩, 44) := ⟨⟨by decide +kernel, by decide +kernel⟩, List.mem_of_getElem? (i := 1122) (by decide +kernel), List.mem_of_getElem? (i := 1395) (by decide +kernel), List.mem_of_getElem? (i := 1396) (by decide +kernel)⟩
theorem lw_p57 : lw_okq (⟨"RaffleArmyModel", "readMan", "()V"⟩, 44) := ⟨⟨by decide +kernel, by decide +kernel⟩, List.mem_of_getElem? (i := 1122) (by decide +kernel), List.mem_of_getElem? (i := 1402) (by decide +kernel), List.mem_of_getElem? (i := 1403) (by decide +kernel)⟩
theorem lw_p58 : lw_okq (⟨"RaffleArmyModel", "readOnce", "()V"⟩, 44) := ⟨⟨by decide +kernel, by decide +kernel⟩, List.mem_of_getElem? (i := 1122) (by decide +kernel), List.mem_of_getElem? (i := 1406) (by decide +kernel), List.mem_of_getElem? (i := 1407) (by decide +kernel)⟩
theorem lw_p59 : lw_okq (⟨"RaffleArmyModel", "all", "(I)V"⟩, 44) := ⟨⟨by decide +kernel, by decide +kernel⟩, List.mem_of_getElem? (i := 1122) (by decide +kernel), List.mem_of_getElem? (i := 1410) (by decide +kernel), List.mem_of_getElem? (i := 1411) (by decide +kernel)⟩
theorem lw_p60 : lw_okq (⟨"RaffleArmyModel", "test", "(I)V"⟩, 44) := ⟨⟨by decide +kernel, by decide +kernel⟩, List.mem_of_getElem? (i := 1122) (by decide +kernel), List.mem_of_getElem? (i := 1414) (by decide +kernel), List.mem_of_getElem? (i := 1415) (by decide +kernel)⟩
theorem lw_p61 : lw_okq (⟨"RaffleArmyModel", "sums", "(I)V"⟩, 44) := ⟨⟨by decide +kernel, by decide +kernel⟩, List.mem_of_getElem? (i := 1122) (by decide +kernel), List.mem_of_getElem? (i := 1418) (by decide +kernel), List.mem_of_getElem? (i := 1419) (by decide +kernel)⟩
theorem lw_p62 : lw_okq (⟨"RaffleArmyModel", "products", "(I)V"⟩, 44) := ⟨⟨by decide +kernel, by decide +kernel⟩, List.mem_of_getElem? (i := 1122) (by decide +kernel), List.mem_of_getElem? (i := 1422) (by decide +kernel), List.mem_of_getElem? (i := 1423) (by decide +kernel)⟩
theorem lw_p63 : lw_okq (⟨"RaffleArmyModel", "takePart", "(I)V"⟩, 44) := ⟨⟨by decide +kernel, by decide +kernel⟩, List.mem_of_getElem? (i := 1122) (by decide +kernel), List.mem_of_getElem? (i := 1426) (by decide +kernel), List.mem_of_getElem? (i := 1427) (by decide +kernel)⟩
def lw_privs_4 : List (MethodName × Nat) := [(⟨"RaffleArmyModel", "isName", "()Z"⟩, 44), (⟨"RaffleArmyModel", "wordHere", "(II)I"⟩, 44), (⟨"RaffleArmyModel", "find", "(Z)I"⟩, 44), (⟨"RaffleArmyModel", "takeOne", "(II)I"⟩, 44), (⟨"RaffleArmyModel", "takeAfter", "(III)I"⟩, 44), (⟨"RaffleArmyModel", "takeWord", "(I)V"⟩, 44), (⟨"RaffleArmyModel", "hasWord", "(I)Z"⟩, 44), (⟨"RaffleArmyModel", "takeNumber", "(II)I"⟩, 44), (⟨"RaffleArmyModel", "toldHere", "(ZII)I"⟩, 44), (⟨"RaffleArmyModel", "readMan", "()V"⟩, 44), (⟨"RaffleArmyModel", "readOnce", "()V"⟩, 44), (⟨"RaffleArmyModel", "all", "(I)V"⟩, 44), (⟨"RaffleArmyModel", "test", "(I)V"⟩, 44), (⟨"RaffleArmyModel", "sums", "(I)V"⟩, 44), (⟨"RaffleArmyModel", "products", "(I)V"⟩, 44), (⟨"RaffleArmyModel", "takePart", "(I)V"⟩, 44)]
theorem lw_r4 : ∀ q ∈ lw_privs_4, lw_okq q := List.forall_mem_cons.mpr ⟨lw_p48, List.forall_mem_cons.mpr ⟨lw_p49, List.forall_mem_cons.mpr ⟨lw_p50, List.forall_mem_cons.mpr ⟨lw_p51, List.forall_mem_cons.mpr ⟨lw_p52, List.forall_mem_cons.mpr ⟨lw_p53, List.forall_mem_cons.mpr ⟨lw_p54, List.forall_mem_cons.mpr ⟨lw_p55, List.forall_mem_cons.mpr ⟨lw_p56, List.forall_mem_cons.mpr ⟨lw_p57, List.forall_mem_cons.mpr ⟨lw_p58, List.forall_mem_cons.mpr ⟨lw_p59, List.forall_mem_cons.mpr ⟨lw_p60, List.forall_mem_cons.mpr ⟨lw_p61, List.forall_mem_cons.mpr ⟨lw_p62, List.forall_mem_cons.mpr ⟨lw_p63, fun _ h => absurd h List.not_mem_nil⟩⟩⟩⟩⟩⟩⟩⟩⟩⟩⟩⟩⟩⟩⟩⟩
theorem lw_p64 : lw_okq (⟨"RaffleArmyModel", "isSign", "(I)Z"⟩, 44) := ⟨⟨by decide +kernel, by decide +kernel⟩, List.mem_of_getElem? (i := 1122) (by decide +kernel), List.mem_of_getElem? (i := 1430) (by decide +kernel), List.mem_of_getElem? (i := 1431) (by decide +kernel)⟩
theorem lw_p65 : lw_okq (⟨"RaffleArmyModel", "emit", "(II)V"⟩, 44) := ⟨⟨by decide +kernel, by decide +kernel⟩, List.mem_of_getElem? (i := 1122) (by decide +kernel), List.mem_of_getElem? (i := 1434) (by decide +kernel), List.mem_of_getElem? (i := 1435) (by decide +kernel)⟩
theorem lw_p66 : lw_okq (⟨"RaffleArmyModel", "hasSign", "(I)Z"⟩, 44) := ⟨⟨by decide +kernel, by decide +kernel⟩, List.mem_of_getElem? (i := 1122) (by decide +kernel), List.mem_of_getElem? (i := 1438) (by decide +kernel), List.mem_of_getElem? (i := 1439) (by decide +kernel)⟩
theorem lw_p67 : lw_okq (⟨"RaffleArmyModel", "takeSign", "(I)V"⟩, 44) := ⟨⟨by decide +kernel, by decide +kernel⟩, List.mem_of_getElem? (i := 1122) (by decide +kernel), List.mem_of_getElem? (i := 1442) (by decide +kernel), List.mem_of_getElem? (i := 1443) (by decide +kernel)⟩
theorem lw_p68 : lw_okq (⟨"RaffleArmyModel", "readWar", "(II)V"⟩, 44) := ⟨⟨by decide +kernel, by decide +kernel⟩, List.mem_of_getElem? (i := 1122) (by decide +kernel), List.mem_of_getElem? (i := 1450) (by decide +kernel), List.mem_of_getElem? (i := 1451) (by decide +kernel)⟩
theorem lw_p69 : lw_okq (⟨"RaffleArmyModel", "isPost", "(I)Z"⟩, 44) := ⟨⟨by decide +kernel, by decide +kernel⟩, List.mem_of_getElem? (i := 1122) (by decide +kernel), List.mem_of_getElem? (i := 1458) (by decide +kernel), List.mem_of_getElem? (i := 1459) (by decide +kernel)⟩
theorem lw_p70 : lw_okq (⟨"RaffleArmyModel", "laysHeld", "(I)V"⟩, 44) := ⟨⟨by decide +kernel, by decide +kernel⟩, List.mem_of_getElem? (i := 1122) (by decide +kernel), List.mem_of_getElem? (i := 1462) (by decide +kernel), List.mem_of_getElem? (i := 1463) (by decide +kernel)⟩
theorem lw_p71 : lw_okq (⟨"RaffleArmyModel", "laysSkills", "()V"⟩, 44) := ⟨⟨by decide +kernel, by decide +kernel⟩, List.mem_of_getElem? (i := 1122) (by decide +kernel), List.mem_of_getElem? (i := 1466) (by decide +kernel), List.mem_of_getElem? (i := 1467) (by decide +kernel)⟩
theorem lw_p72 : lw_okq (⟨"RaffleArmyModel", "skillOf", "(II)I"⟩, 44) := ⟨⟨by decide +kernel, by decide +kernel⟩, List.mem_of_getElem? (i := 1122) (by decide +kernel), List.mem_of_getElem? (i := 1470) (by decide +kernel), List.mem_of_getElem? (i := 1471) (by decide +kernel)⟩
theorem lw_p73 : lw_okq (⟨"RaffleArmyModel", "laysFacts", "(II)V"⟩, 44) := ⟨⟨by decide +kernel, by decide +kernel⟩, List.mem_of_getElem? (i := 1122) (by decide +kernel), List.mem_of_getElem? (i := 1474) (by decide +kernel), List.mem_of_getElem? (i := 1475) (by decide +kernel)⟩
theorem lw_p74 : lw_okq (⟨"RaffleArmyModel", "postOf", "(II)I"⟩, 44) := ⟨⟨by decide +kernel, by decide +kernel⟩, List.mem_of_getElem? (i := 1122) (by decide +kernel), List.mem_of_getElem? (i := 1478) (by decide +kernel), List.mem_of_getElem? (i := 1479) (by decide +kernel)⟩
theorem lw_p75 : lw_okq (⟨"RaffleArmyModel", "worthAt", "(I)I"⟩, 44) := ⟨⟨by decide +kernel, by decide +kernel⟩, List.mem_of_getElem? (i := 1122) (by decide +kernel), List.mem_of_getElem? (i := 1482) (by decide +kernel), List.mem_of_getElem? (i := 1483) (by decide +kernel)⟩
theorem lw_p76 : lw_okq (⟨"RaffleArmyModel", "doesObey", "(I)Z"⟩, 44) := ⟨⟨by decide +kernel, by decide +kernel⟩, List.mem_of_getElem? (i := 1122) (by decide +kernel), List.mem_of_getElem? (i := 1489) (by decide +kernel), List.mem_of_getElem? (i := 1490) (by decide +kernel)⟩
theorem lw_p77 : lw_okq (⟨"RaffleArmyModel", "isMan", "(I)Z"⟩, 44) := ⟨⟨by decide +kernel, by decide +kernel⟩, List.mem_of_getElem? (i := 1122) (by decide +kernel), List.mem_of_getElem? (i := 1497) (by decide +kernel), List.mem_of_getElem? (i := 1498) (by decide +kernel)⟩
theorem lw_p78 : lw_okq (⟨"RaffleArmyModel", "postHeldBy", "(II)I"⟩, 44) := ⟨⟨by decide +kernel, by decide +kernel⟩, List.mem_of_getElem? (i := 1122) (by decide +kernel), List.mem_of_getElem? (i := 1501) (by decide +kernel), List.mem_of_getElem? (i := 1502) (by decide +kernel)⟩
theorem lw_p79 : lw_okq (⟨"RaffleArmyModel", "oursOf", "(I)I"⟩, 44) := ⟨⟨by decide +kernel, by decide +kernel⟩, List.mem_of_getElem? (i := 1122) (by decide +kernel), List.mem_of_getElem? (i := 1513) (by decide +kernel), List.mem_of_getElem? (i := 1514) (by decide +kernel)⟩
def lw_privs_5 : List (MethodName × Nat) := [(⟨"RaffleArmyModel", "isSign", "(I)Z"⟩, 44), (⟨"RaffleArmyModel", "emit", "(II)V"⟩, 44), (⟨"RaffleArmyModel", "hasSign", "(I)Z"⟩, 44), (⟨"RaffleArmyModel", "takeSign", "(I)V"⟩, 44), (⟨"RaffleArmyModel", "readWar", "(II)V"⟩, 44), (⟨"RaffleArmyModel", "isPost", "(I)Z"⟩, 44), (⟨"RaffleArmyModel", "laysHeld", "(I)V"⟩, 44), (⟨"RaffleArmyModel", "laysSkills", "()V"⟩, 44), (⟨"RaffleArmyModel", "skillOf", "(II)I"⟩, 44), (⟨"RaffleArmyModel", "laysFacts", "(II)V"⟩, 44), (⟨"RaffleArmyModel", "postOf", "(II)I"⟩, 44), (⟨"RaffleArmyModel", "worthAt", "(I)I"⟩, 44), (⟨"RaffleArmyModel", "doesObey", "(I)Z"⟩, 44), (⟨"RaffleArmyModel", "isMan", "(I)Z"⟩, 44), (⟨"RaffleArmyModel", "postHeldBy", "(II)I"⟩, 44), (⟨"RaffleArmyModel", "oursOf", "(I)I"⟩, 44)]
theorem lw_r5 : ∀ q ∈ lw_privs_5, lw_okq q := List.forall_mem_cons.mpr ⟨lw_p64, List.forall_mem_cons.mpr ⟨lw_p65, List.forall_mem_cons.mpr ⟨lw_p66, List.forall_mem_cons.mpr ⟨lw_p67, List.forall_mem_cons.mpr ⟨lw_p68, List.forall_mem_cons.mpr ⟨lw_p69, List.forall_mem_cons.mpr ⟨lw_p70, List.forall_mem_cons.mpr ⟨lw_p71, List.forall_mem_cons.mpr ⟨lw_p72, List.forall_mem_cons.mpr ⟨lw_p73, List.forall_mem_cons.mpr ⟨lw_p74, List.forall_mem_cons.mpr ⟨lw_p75, List.forall_mem_cons.mpr ⟨lw_p76, List.forall_mem_cons.mpr ⟨lw_p77, List.forall_mem_cons.mpr ⟨lw_p78, List.forall_mem_cons.mpr ⟨lw_p79, fun _ h => absurd h List.not_mem_nil⟩⟩⟩⟩⟩⟩⟩⟩⟩⟩⟩⟩⟩⟩⟩⟩
theorem lw_p80 : lw_okq (⟨"RaffleArmyModel", "oursNow", "()I"⟩, 44) := ⟨⟨by decide +kernel, by decide +kernel⟩, List.mem_of_getElem? (i := 1122) (by decide +kernel), List.mem_of_getElem? (i := 1517) (by decide +kernel), List.mem_of_getElem? (i := 1518) (by decide +kernel)⟩
theorem lw_p81 : lw_okq (⟨"RaffleArmyModel", "keeps", "()V"⟩, 44) := ⟨⟨by decide +kernel, by decide +kernel⟩, List.mem_of_getElem? (i := 1122) (by decide +kernel), List.mem_of_getElem? (i := 1525) (by decide +kernel), List.mem_of_getElem? (i := 1526) (by decide +kernel)⟩
theorem lw_p82 : lw_okq (⟨"RaffleArmyModel", "copies", "(III)V"⟩, 44) := ⟨⟨by decide +kernel, by decide +kernel⟩, List.mem_of_getElem? (i := 1122) (by decide +kernel), List.mem_of_getElem? (i := 1529) (by decide +kernel), List.mem_of_getElem? (i := 1530) (by decide +kernel)⟩
theorem lw_p83 : lw_okq (⟨"RaffleArmyModel", "draws", "(I)V"⟩, 44) := ⟨⟨by decide +kernel, by decide +kernel⟩, List.mem_of_getElem? (i := 1122) (by decide +kernel), List.mem_of_getElem? (i := 1533) (by decide +kernel), List.mem_of_getElem? (i := 1534) (by decide +kernel)⟩
theorem lw_p84 : lw_okq (⟨"RaffleArmyModel", "drawBelow", "(I)I"⟩, 44) := ⟨⟨by decide +kernel, by decide +kernel⟩, List.mem_of_getElem? (i := 1122) (by decide +kernel), List.mem_of_getElem? (i := 1537) (by decide +kernel), List.mem_of_getElem? (i := 1538) (by decide +kernel)⟩
theorem lw_p85 : lw_okq (⟨"RaffleArmyModel", "maySell", "(IIII)Z"⟩, 44) := ⟨⟨by decide +kernel, by decide +kernel⟩, List.mem_of_getElem? (i := 1122) (by decide +kernel), List.mem_of_getElem? (i := 1549) (by decide +kernel), List.mem_of_getElem? (i := 1550) (by decide +kernel)⟩
theorem lw_p86 : lw_okq (⟨"RaffleArmyModel", "sells", "(IIII)V"⟩, 44) := ⟨⟨by decide +kernel, by decide +kernel⟩, List.mem_of_getElem? (i := 1122) (by decide +kernel), List.mem_of_getElem? (i := 1553) (by decide +kernel), List.mem_of_getElem? (i := 1554) (by decide +kernel)⟩
theorem lw_p87 : lw_okq (⟨"RaffleArmyModel", "isEnd", "(I)Z"⟩, 44) := ⟨⟨by decide +kernel, by decide +kernel⟩, List.mem_of_getElem? (i := 1122) (by decide +kernel), List.mem_of_getElem? (i := 1565) (by decide +kernel), List.mem_of_getElem? (i := 1566) (by decide +kernel)⟩
theorem lw_p88 : lw_okq (⟨"RaffleArmyModel", "cells", "()I"⟩, 44) := ⟨⟨by decide +kernel, by decide +kernel⟩, List.mem_of_getElem? (i := 1122) (by decide +kernel), List.mem_of_getElem? (i := 1569) (by decide +kernel), List.mem_of_getElem? (i := 1570) (by decide +kernel)⟩
theorem lw_p89 : lw_okq (⟨"RaffleArmyModel", "isOver", "(I)Z"⟩, 44) := ⟨⟨by decide +kernel, by decide +kernel⟩, List.mem_of_getElem? (i := 1122) (by decide +kernel), List.mem_of_getElem? (i := 1573) (by decide +kernel), List.mem_of_getElem? (i := 1574) (by decide +kernel)⟩
theorem lw_p90 : lw_okq (⟨"RaffleArmyModel", "passes", "(II)I"⟩, 44) := ⟨⟨by decide +kernel, by decide +kernel⟩, List.mem_of_getElem? (i := 1122) (by decide +kernel), List.mem_of_getElem? (i := 1577) (by decide +kernel), List.mem_of_getElem? (i := 1578) (by decide +kernel)⟩
theorem lw_p91 : lw_okq (⟨"RaffleArmyModel", "goesBy", "(III)I"⟩, 44) := ⟨⟨by decide +kernel, by decide +kernel⟩, List.mem_of_getElem? (i := 1122) (by decide +kernel), List.mem_of_getElem? (i := 1581) (by decide +kernel), List.mem_of_getElem? (i := 1582) (by decide +kernel)⟩
theorem lw_p92 : lw_okq (⟨"RaffleArmyModel", "bounded", "(I)I"⟩, 44) := ⟨⟨by decide +kernel, by decide +kernel⟩, List.mem_of_getElem? (i := 1122) (by decide +kernel), List.mem_of_getElem? (i := 1585) (by decide +kernel), List.mem_of_getElem? (i := 1586) (by decide +kernel)⟩
theorem lw_p93 : lw_okq (⟨"RaffleArmyModel", "does", "(I)Z"⟩, 44) := ⟨⟨by decide +kernel, by decide +kernel⟩, List.mem_of_getElem? (i := 1122) (by decide +kernel), List.mem_of_getElem? (i := 1597) (by decide +kernel), List.mem_of_getElem? (i := 1598) (by decide +kernel)⟩
theorem lw_p94 : lw_okq (⟨"RaffleArmyModel", "goesThroughWays", "()V"⟩, 44) := ⟨⟨by decide +kernel, by decide +kernel⟩, List.mem_of_getElem? (i := 1122) (by decide +kernel), List.mem_of_getElem? (i := 1609) (by decide +kernel), List.mem_of_getElem? (i := 1610) (by decide +kernel)⟩
theorem lw_p95 : lw_okq (⟨"RaffleArmyModel", "gives", "(III)V"⟩, 44) := ⟨⟨by decide +kernel, by decide +kernel⟩, List.mem_of_getElem? (i := 1122) (by decide +kernel), List.mem_of_getElem? (i := 1613) (by decide +kernel), List.mem_of_getElem? (i := 1614) (by decide +kernel)⟩
def lw_privs_6 : List (MethodName × Nat) := [(⟨"RaffleArmyModel", "oursNow", "()I"⟩, 44), (⟨"RaffleArmyModel", "keeps", "()V"⟩, 44), (⟨"RaffleArmyModel", "copies", "(III)V"⟩, 44), (⟨"RaffleArmyModel", "draws", "(I)V"⟩, 44), (⟨"RaffleArmyModel", "drawBelow", "(I)I"⟩, 44), (⟨"RaffleArmyModel", "maySell", "(IIII)Z"⟩, 44), (⟨"RaffleArmyModel", "sells", "(IIII)V"⟩, 44), (⟨"RaffleArmyModel", "isEnd", "(I)Z"⟩, 44), (⟨"RaffleArmyModel", "cells", "()I"⟩, 44), (⟨"RaffleArmyModel", "isOver", "(I)Z"⟩, 44), (⟨"RaffleArmyModel", "passes", "(II)I"⟩, 44), (⟨"RaffleArmyModel", "goesBy", "(III)I"⟩, 44), (⟨"RaffleArmyModel", "bounded", "(I)I"⟩, 44), (⟨"RaffleArmyModel", "does", "(I)Z"⟩, 44), (⟨"RaffleArmyModel", "goesThroughWays", "()V"⟩, 44), (⟨"RaffleArmyModel", "gives", "(III)V"⟩, 44)]
theorem lw_r6 : ∀ q ∈ lw_privs_6, lw_okq q := List.forall_mem_cons.mpr ⟨lw_p80, List.forall_mem_cons.mpr ⟨lw_p81, List.forall_mem_cons.mpr ⟨lw_p82, List.forall_mem_cons.mpr ⟨lw_p83, List.forall_mem_cons.mpr ⟨lw_p84, List.forall_mem_cons.mpr ⟨lw_p85, List.forall_mem_cons.mpr ⟨lw_p86, List.forall_mem_cons.mpr ⟨lw_p87, List.forall_mem_cons.mpr ⟨lw_p88, List.forall_mem_cons.mpr ⟨lw_p89, List.forall_mem_cons.mpr ⟨lw_p90, List.forall_mem_cons.mpr ⟨lw_p91, List.forall_mem_cons.mpr ⟨lw_p92, List.forall_mem_cons.mpr ⟨lw_p93, List.forall_mem_cons.mpr ⟨lw_p94, List.forall_mem_cons.mpr ⟨lw_p95, fun _ h => absurd h List.not_mem_nil⟩⟩⟩⟩⟩⟩⟩⟩⟩⟩⟩⟩⟩⟩⟩⟩
theorem lw_p96 : lw_okq (⟨"RaffleArmyModel", "looks", "()V"⟩, 44) := ⟨⟨by decide +kernel, by decide +kernel⟩, List.mem_of_getElem? (i := 1122) (by decide +kernel), List.mem_of_getElem? (i := 1617) (by decide +kernel), List.mem_of_getElem? (i := 1618) (by decide +kernel)⟩
theorem lw_p97 : lw_okq (⟨"RaffleArmyModel", "fewer", "()I"⟩, 44) := ⟨⟨by decide +kernel, by decide +kernel⟩, List.mem_of_getElem? (i := 1122) (by decide +kernel), List.mem_of_getElem? (i := 1621) (by decide +kernel), List.mem_of_getElem? (i := 1622) (by decide +kernel)⟩
theorem lw_p98 : lw_okq (⟨"RaffleArmyModel", "frontsBy", "(II)J"⟩, 44) := ⟨⟨by decide +kernel, by decide +kernel⟩, List.mem_of_getElem? (i := 1122) (by decide +kernel), List.mem_of_getElem? (i := 1638) (by decide +kernel), List.mem_of_getElem? (i := 1639) (by decide +kernel)⟩
theorem lw_p99 : lw_okq (⟨"RaffleArmyModel", "findSwaps", "()V"⟩, 44) := ⟨⟨by decide +kernel, by decide +kernel⟩, List.mem_of_getElem? (i := 1122) (by decide +kernel), List.mem_of_getElem? (i := 1649) (by decide +kernel), List.mem_of_getElem? (i := 1650) (by decide +kernel)⟩
theorem lw_p100 : lw_okq (⟨"RaffleArmyModel", "findLooks", "(I)V"⟩, 44) := ⟨⟨by decide +kernel, by decide +kernel⟩, List.mem_of_getElem? (i := 1122) (by decide +kernel), List.mem_of_getElem? (i := 1653) (by decide +kernel), List.mem_of_getElem? (i := 1654) (by decide +kernel)⟩
theorem lw_p101 : lw_okq (⟨"RaffleArmyModel", "likes", "(II)I"⟩, 44) := ⟨⟨by decide +kernel, by decide +kernel⟩, List.mem_of_getElem? (i := 1122) (by decide +kernel), List.mem_of_getElem? (i := 1657) (by decide +kernel), List.mem_of_getElem? (i := 1658) (by decide +kernel)⟩
theorem lw_p102 : lw_okq (⟨"RaffleArmyModel", "isInRing", "(I)Z"⟩, 44) := ⟨⟨by decide +kernel, by decide +kernel⟩, List.mem_of_getElem? (i := 1122) (by decide +kernel), List.mem_of_getElem? (i := 1661) (by decide +kernel), List.mem_of_getElem? (i := 1662) (by decide +kernel)⟩
theorem lw_p103 : lw_okq (⟨"RaffleArmyModel", "arePooled", "(I)Z"⟩, 44) := ⟨⟨by decide +kernel, by decide +kernel⟩, List.mem_of_getElem? (i := 1122) (by decide +kernel), List.mem_of_getElem? (i := 1673) (by decide +kernel), List.mem_of_getElem? (i := 1674) (by decide +kernel)⟩
theorem lw_p104 : lw_okq (⟨"RaffleArmyModel", "poolOf", "(I)I"⟩, 44) := ⟨⟨by decide +kernel, by decide +kernel⟩, List.mem_of_getElem? (i := 1122) (by decide +kernel), List.mem_of_getElem? (i := 1677) (by decide +kernel), List.mem_of_getElem? (i := 1678) (by decide +kernel)⟩
theorem lw_p105 : lw_okq (⟨"RaffleArmyModel", "pools", "(III)V"⟩, 44) := ⟨⟨by decide +kernel, by decide +kernel⟩, List.mem_of_getElem? (i := 1122) (by decide +kernel), List.mem_of_getElem? (i := 1681) (by decide +kernel), List.mem_of_getElem? (i := 1682) (by decide +kernel)⟩
theorem lw_p106 : lw_okq (⟨"RaffleArmyModel", "toldOf", "(II)I"⟩, 44) := ⟨⟨by decide +kernel, by decide +kernel⟩, List.mem_of_getElem? (i := 1122) (by decide +kernel), List.mem_of_getElem? (i := 1703) (by decide +kernel), List.mem_of_getElem? (i := 1704) (by decide +kernel)⟩
theorem lw_p107 : lw_okq (⟨"RaffleArmyModel", "fairBy", "(III)I"⟩, 44) := ⟨⟨by decide +kernel, by decide +kernel⟩, List.mem_of_getElem? (i := 1122) (by decide +kernel), List.mem_of_getElem? (i := 1707) (by decide +kernel), List.mem_of_getElem? (i := 1708) (by decide +kernel)⟩
theorem lw_p108 : lw_okq (⟨"RaffleArmyModel", "laysGoes", "()V"⟩, 44) := ⟨⟨by decide +kernel, by decide +kernel⟩, List.mem_of_getElem? (i := 1122) (by decide +kernel), List.mem_of_getElem? (i := 1727) (by decide +kernel), List.mem_of_getElem? (i := 1728) (by decide +kernel)⟩
theorem lw_p109 : lw_okq (⟨"RaffleArmyModel", "rowsFrom", "(III)V"⟩, 44) := ⟨⟨by decide +kernel, by decide +kernel⟩, List.mem_of_getElem? (i := 1122) (by decide +kernel), List.mem_of_getElem? (i := 1731) (by decide +kernel), List.mem_of_getElem? (i := 1732) (by decide +kernel)⟩
theorem lw_p110 : lw_okq (⟨"RaffleArmyModel", "bestOff", "(II)I"⟩, 44) := ⟨⟨by decide +kernel, by decide +kernel⟩, List.mem_of_getElem? (i := 1122) (by decide +kernel), List.mem_of_getElem? (i := 1739) (by decide +kernel), List.mem_of_getElem? (i := 1740) (by decide +kernel)⟩
theorem lw_p111 : lw_okq (⟨"RaffleArmyModel", "offBy", "(III)I"⟩, 44) := ⟨⟨by decide +kernel, by decide +kernel⟩, List.mem_of_getElem? (i := 1122) (by decide +kernel), List.mem_of_getElem? (i := 1743) (by decide +kernel), List.mem_of_getElem? (i := 1744) (by decide +kernel)⟩
def lw_privs_7 : List (MethodName × Nat) := [(⟨"RaffleArmyModel", "looks", "()V"⟩, 44), (⟨"RaffleArmyModel", "fewer", "()I"⟩, 44), (⟨"RaffleArmyModel", "frontsBy", "(II)J"⟩, 44), (⟨"RaffleArmyModel", "findSwaps", "()V"⟩, 44), (⟨"RaffleArmyModel", "findLooks", "(I)V"⟩, 44), (⟨"RaffleArmyModel", "likes", "(II)I"⟩, 44), (⟨"RaffleArmyModel", "isInRing", "(I)Z"⟩, 44), (⟨"RaffleArmyModel", "arePooled", "(I)Z"⟩, 44), (⟨"RaffleArmyModel", "poolOf", "(I)I"⟩, 44), (⟨"RaffleArmyModel", "pools", "(III)V"⟩, 44), (⟨"RaffleArmyModel", "toldOf", "(II)I"⟩, 44), (⟨"RaffleArmyModel", "fairBy", "(III)I"⟩, 44), (⟨"RaffleArmyModel", "laysGoes", "()V"⟩, 44), (⟨"RaffleArmyModel", "rowsFrom", "(III)V"⟩, 44), (⟨"RaffleArmyModel", "bestOff", "(II)I"⟩, 44), (⟨"RaffleArmyModel", "offBy", "(III)I"⟩, 44)]
theorem lw_r7 : ∀ q ∈ lw_privs_7, lw_okq q := List.forall_mem_cons.mpr ⟨lw_p96, List.forall_mem_cons.mpr ⟨lw_p97, List.forall_mem_cons.mpr ⟨lw_p98, List.forall_mem_cons.mpr ⟨lw_p99, List.forall_mem_cons.mpr ⟨lw_p100, List.forall_mem_cons.mpr ⟨lw_p101, List.forall_mem_cons.mpr ⟨lw_p102, List.forall_mem_cons.mpr ⟨lw_p103, List.forall_mem_cons.mpr ⟨lw_p104, List.forall_mem_cons.mpr ⟨lw_p105, List.forall_mem_cons.mpr ⟨lw_p106, List.forall_mem_cons.mpr ⟨lw_p107, List.forall_mem_cons.mpr ⟨lw_p108, List.forall_mem_cons.mpr ⟨lw_p109, List.forall_mem_cons.mpr ⟨lw_p110, List.forall_mem_cons.mpr ⟨lw_p111, fun _ h => absurd h List.not_mem_nil⟩⟩⟩⟩⟩⟩⟩⟩⟩⟩⟩⟩⟩⟩⟩⟩
theorem lw_p112 : lw_okq (⟨"RaffleArmyModel", "wayBy", "(IIII)I"⟩, 44) := ⟨⟨by decide +kernel, by decide +kernel⟩, List.mem_of_getElem? (i := 1122) (by decide +kernel), List.mem_of_getElem? (i := 1751) (by decide +kernel), List.mem_of_getElem? (i := 1752) (by decide +kernel)⟩
def lw_privs_8 : List (MethodName × Nat) := [(⟨"RaffleArmyModel", "wayBy", "(IIII)I"⟩, 44)]
theorem lw_r8 : ∀ q ∈ lw_privs_8, lw_okq q := List.forall_mem_cons.mpr ⟨lw_p112, fun _ h => absurd h List.not_mem_nil⟩
def lw_privs : List (MethodName × Nat) := lw_privs_1 ++ (lw_privs_2 ++ (lw_privs_3 ++ (lw_privs_4 ++ (lw_privs_5 ++ (lw_privs_6 ++ (lw_privs_7 ++ (lw_privs_8)))))))
def lw_tbl : List Cond := k2_sels lw_privs ++ tables_1
theorem lw_privs_ok : ∀ q ∈ lw_privs, lw_okq q := by
  show ∀ q ∈ lw_privs_1 ++ (lw_privs_2 ++ (lw_privs_3 ++ (lw_privs_4 ++ (lw_privs_5 ++ (lw_privs_6 ++ (lw_privs_7 ++ (lw_privs_8))))))), lw_okq q
  exact List.forall_mem_append.mpr ⟨lw_r1, List.forall_mem_append.mpr ⟨lw_r2, List.forall_mem_append.mpr ⟨lw_r3, List.forall_mem_append.mpr ⟨lw_r4, List.forall_mem_append.mpr ⟨lw_r5, List.forall_mem_append.mpr ⟨lw_r6, List.forall_mem_append.mpr ⟨lw_r7, lw_r8⟩⟩⟩⟩⟩⟩⟩
end
section
/-! names: classes, fields, methods, the pools; printed by wip/whole/gen1.py out of the claim's tables -/
def zq_Rl : List String := ["RaffleArmy$Army", "RaffleArmy$Laws", "RaffleArmy$Notes", "RaffleArmy$Raffle", "RaffleArmy$State", "RaffleArmy$Tape", "RaffleArmy$Trade", "RaffleArmy$War", "RaffleArmy$Ways", "RaffleArmy", "RaffleArmyModel", "RaffleArmyLaw", "java/lang/Math", "java/lang/Integer"]
def zq_R (i : Nat) : String := zq_Rl.getD i ""
def zq_Tl0 : List (String × String × String × Bool) := [("RaffleArmy$Army", "posts", "I", false), ("RaffleArmy$Army", "men", "I", false), ("RaffleArmy$Army", "cells", "I", false), ("RaffleArmy$Army", "start", "I", false), ("RaffleArmy$Army", "theirs", "I", false), ("RaffleArmy$Army", "quarter", "I", false), ("RaffleArmy$Army", "heed", "I", false), ("RaffleArmy$Army", "kind", "[I", true), ("RaffleArmy$Army", "weighs", "[I", true), ("RaffleArmy$Army", "under", "[I", true), ("RaffleArmy$Army", "brave", "[I", true), ("RaffleArmy$Army", "wit", "[I", true), ("RaffleArmy$Army", "coins", "[I", true), ("RaffleArmy$Army", "postNames", "[J", true), ("RaffleArmy$Army", "manNames", "[J", true), ("RaffleArmy$Army", "skills", "[I", true), ("RaffleArmy$Army", "likings", "[I", true), ("RaffleArmy$Army", "laws", "LRaffleArmy$Laws;", true), ("RaffleArmy$Army", "linesTold", "I", false)]
def zq_tl0 : List FieldType := [.int, .int, .int, .int, .int, .int, .int, .array .int, .array .int, .array .int, .array .int, .array .int, .array .int, .array .long, .array .long, .array .int, .array .int, .object "RaffleArmy$Laws", .int]
def zq_Tl1 : List (String × String × String × Bool) := [("RaffleArmy$Laws", "steps", "[I", true), ("RaffleArmy$Laws", "begins", "[I", true), ("RaffleArmy$Laws", "ends", "[I", true), ("RaffleArmy$Laws", "pile", "[I", true), ("RaffleArmy$Laws", "facts", "[I", true), ("RaffleArmy$Laws", "used", "I", false)]
def zq_tl1 : List FieldType := [.array .int, .array .int, .array .int, .array .int, .array .int, .int]
def zq_Tl2 : List (String × String × String × Bool) := [("RaffleArmy$Notes", "seen", "[I", true), ("RaffleArmy$Notes", "toldMan", "[I", true), ("RaffleArmy$Notes", "toldPost", "[I", true), ("RaffleArmy$Notes", "seenMany", "I", false), ("RaffleArmy$Notes", "toldMany", "I", false)]
def zq_tl2 : List FieldType := [.array .int, .array .int, .array .int, .int, .int]
def zq_Tl3 : List (String × String × String × Bool) := [("RaffleArmy$Raffle", "g", "J", false), ("RaffleArmy$Raffle", "standing", "[I", true)]
def zq_tl3 : List FieldType := [.long, .array .int]
def zq_Tl4 : List (String × String × String × Bool) := [("RaffleArmy$State", "manOf", "[I", true), ("RaffleArmy$State", "coins", "[I", true), ("RaffleArmy$State", "order", "I", false), ("RaffleArmy$State", "front", "I", false), ("RaffleArmy$State", "week", "I", false), ("RaffleArmy$State", "over", "Z", false)]
def zq_tl4 : List FieldType := [.array .int, .array .int, .int, .int, .int, .boolean]
def zq_Tl5 : List (String × String × String × Bool) := [("RaffleArmy$Tape", "signs", "[C", true), ("RaffleArmy$Tape", "many", "I", false), ("RaffleArmy$Tape", "type", "I", false), ("RaffleArmy$Tape", "word", "LRaffleArmy$Word;", false), ("RaffleArmy$Tape", "code", "J", false), ("RaffleArmy$Tape", "taken", "I", false), ("RaffleArmy$Tape", "sign", "C", false), ("RaffleArmy$Tape", "place", "I", false), ("RaffleArmy$Tape", "next", "I", false), ("RaffleArmy$Tape", "fault", "I", false)]
def zq_tl5 : List FieldType := [.array .char, .int, .int, .object "RaffleArmy$Word", .long, .int, .char, .int, .int, .int]
def zq_Tl6 : List (String × String × String × Bool) := [("RaffleArmy$Trade", "gets", "[I", true), ("RaffleArmy$Trade", "traders", "[I", true), ("RaffleArmy$Trade", "brought", "[I", true), ("RaffleArmy$Trade", "filled", "[I", true), ("RaffleArmy$Trade", "pools", "[I", true)]
def zq_tl6 : List FieldType := [.array .int, .array .int, .array .int, .array .int, .array .int]
def zq_Tl7 : List (String × String × String × Bool) := [("RaffleArmy$War", "many", "I", false), ("RaffleArmy$War", "kind", "[I", true), ("RaffleArmy$War", "first", "[I", true), ("RaffleArmy$War", "second", "[I", true), ("RaffleArmy$War", "third", "[I", true)]
def zq_tl7 : List FieldType := [.int, .array .int, .array .int, .array .int, .array .int]
def zq_Tl8 : List (String × String × String × Bool) := [("RaffleArmy$Ways", "known", "Z", false), ("RaffleArmy$Ways", "most", "I", false), ("RaffleArmy$Ways", "sum", "J", false), ("RaffleArmy$Ways", "mostBy", "[I", true), ("RaffleArmy$Ways", "planned", "[I", true), ("RaffleArmy$Ways", "many", "I", false), ("RaffleArmy$Ways", "triplesMany", "I", false), ("RaffleArmy$Ways", "manOf", "[I", true), ("RaffleArmy$Ways", "triples", "[I", true), ("RaffleArmy$Ways", "waysOf", "[I", true), ("RaffleArmy$Ways", "tried", "[I", true)]
def zq_tl8 : List FieldType := [.boolean, .int, .long, .array .int, .array .int, .int, .int, .array .int, .array .int, .array .int, .array .int]
def zq_Tl9 : List (String × String × String × Bool) := [("RaffleArmy", "tape", "LRaffleArmy$Tape;", true), ("RaffleArmy", "now", "LRaffleArmy$State;", true), ("RaffleArmy", "trial", "LRaffleArmy$State;", true), ("RaffleArmy", "notes", "LRaffleArmy$Notes;", true), ("RaffleArmy", "ways", "LRaffleArmy$Ways;", true), ("RaffleArmy", "trade", "LRaffleArmy$Trade;", true), ("RaffleArmy", "raffle", "LRaffleArmy$Raffle;", true), ("RaffleArmy", "past", "[LRaffleArmy$State;", true), ("RaffleArmy", "markStates", "[LRaffleArmy$State;", true), ("RaffleArmy", "markNotes", "[LRaffleArmy$Notes;", true), ("RaffleArmy", "row", "[I", true), ("RaffleArmy", "army", "LRaffleArmy$Army;", false), ("RaffleArmy", "armyDraft", "LRaffleArmy$Army;", false), ("RaffleArmy", "war", "LRaffleArmy$War;", false), ("RaffleArmy", "warDraft", "LRaffleArmy$War;", false), ("RaffleArmy", "pastMany", "I", false), ("RaffleArmy", "pastNext", "I", false), ("RaffleArmy", "marksLaid", "I", false)]
def zq_tl9 : List FieldType := [.object "RaffleArmy$Tape", .object "RaffleArmy$State", .object "RaffleArmy$State", .object "RaffleArmy$Notes", .object "RaffleArmy$Ways", .object "RaffleArmy$Trade", .object "RaffleArmy$Raffle", .array (.object "RaffleArmy$State"), .array (.object "RaffleArmy$State"), .array (.object "RaffleArmy$Notes"), .array .int, .object "RaffleArmy$Army", .object "RaffleArmy$Army", .object "RaffleArmy$War", .object "RaffleArmy$War", .int, .int, .int]
def zq_Tl10 : List (String × String × String × Bool) := [("RaffleArmyModel", "thrown", "I", false), ("RaffleArmyModel", "tape", "[I", true), ("RaffleArmyModel", "taped", "I", false), ("RaffleArmyModel", "size", "I", false), ("RaffleArmyModel", "sort", "[I", true), ("RaffleArmyModel", "place", "[I", true), ("RaffleArmyModel", "value", "[J", true), ("RaffleArmyModel", "at", "I", false), ("RaffleArmyModel", "fault", "I", false), ("RaffleArmyModel", "words", "[J", true), ("RaffleArmyModel", "armies", "[I", true), ("RaffleArmyModel", "op", "[I", true), ("RaffleArmyModel", "arg", "[I", true), ("RaffleArmyModel", "codes", "I", false), ("RaffleArmyModel", "names", "[J", true), ("RaffleArmyModel", "readNames", "[J", true), ("RaffleArmyModel", "nameOf", "[I", true), ("RaffleArmyModel", "readNameOf", "[I", true), ("RaffleArmyModel", "namesMany", "I", false), ("RaffleArmyModel", "readMany", "I", false), ("RaffleArmyModel", "once", "I", false), ("RaffleArmyModel", "factsHere", "I", false), ("RaffleArmyModel", "lines", "[I", true), ("RaffleArmyModel", "facts", "[I", true), ("RaffleArmyModel", "pile", "[I", true), ("RaffleArmyModel", "state", "[I", true), ("RaffleArmyModel", "undos", "I", false), ("RaffleArmyModel", "isMarked", "[Z", true), ("RaffleArmyModel", "skills", "[I", true), ("RaffleArmyModel", "heldNow", "[I", true), ("RaffleArmyModel", "g", "J", false), ("RaffleArmyModel", "row", "[I", true), ("RaffleArmyModel", "ways", "I", false), ("RaffleArmyModel", "oursSum", "J", false), ("RaffleArmyModel", "mostOurs", "I", false), ("RaffleArmyModel", "bestHeld", "[I", true), ("RaffleArmyModel", "oursIn", "[I", true), ("RaffleArmyModel", "goesIn", "[I", true), ("RaffleArmyModel", "swapped", "[I", true), ("RaffleArmyModel", "looksAt", "[I", true), ("RaffleArmyModel", "poolMost", "I", false), ("RaffleArmyModel", "rows", "I", false), ("RaffleArmyModel", "firstRow", "I", false), ("RaffleArmyModel", "offs", "[I", true)]
def zq_tl10 : List FieldType := [.int, .array .int, .int, .int, .array .int, .array .int, .array .long, .int, .int, .array .long, .array .int, .array .int, .array .int, .int, .array .long, .array .long, .array .int, .array .int, .int, .int, .int, .int, .array .int, .array .int, .array .int, .array .int, .int, .array .boolean, .array .int, .array .int, .long, .array .int, .int, .long, .int, .array .int, .array .int, .array .int, .array .int, .array .int, .int, .int, .int, .array .int]
def zq_Tls : List (List (String × String × String × Bool)) := [zq_Tl0, zq_Tl1, zq_Tl2, zq_Tl3, zq_Tl4, zq_Tl5, zq_Tl6, zq_Tl7, zq_Tl8, zq_Tl9, zq_Tl10]
def zq_tls : List (List FieldType) := [zq_tl0, zq_tl1, zq_tl2, zq_tl3, zq_tl4, zq_tl5, zq_tl6, zq_tl7, zq_tl8, zq_tl9, zq_tl10]
def zq_Tf (ci : Nat) : u_T := fun k => (zq_Tls.getD ci []).getD k ("", "", "", false)
def zq_ty (ci k : Nat) : FieldType := (zq_tls.getD ci []).getD k .int
def zq_N (ci : Nat) : Nat := (zq_Tls.getD ci []).length
def zq_cl : List vw_C := (List.range 11).map (fun ci => (zq_R ci, zq_Tf ci, zq_N ci))
def zq_WG : List Cond := lw_tbl.filter goodWord
def zq_has (p : Nat) (w : Cond) : Bool := decide (lw_tbl[p]? = some w) && goodWord w
theorem zq_in {p : Nat} {w : Cond} (h : zq_has p w = true) : w ∈ zq_WG := by
  simp only [zq_has, Bool.and_eq_true, decide_eq_true_eq] at h
  exact List.mem_filter.mpr ⟨List.mem_of_getElem? h.1, h.2⟩
theorem zq_nm : ∀ ci, ci < 11 → ∀ a, a < zq_N ci → ∀ b, b < zq_N ci → a ≠ b → (zq_Tf ci a).2.1 ≠ (zq_Tf ci b).2.1 := by decide +kernel
theorem zq_tyok : ∀ ci, ci < 11 → ∀ k, k < zq_N ci → parseFieldDescriptor (zq_Tf ci k).2.2.1 = some (zq_ty ci k) := by decide +kernel
def zq_lp0 : List Nat := [412, 414, 416, 418, 420, 422, 424, 426, 428, 430, 432, 434, 436, 438, 440, 442, 444, 446, 448]
def zq_lp1 : List Nat := [354, 356, 358, 360, 362, 364]
def zq_lp2 : List Nat := [242, 244, 246, 248, 250]
def zq_lp3 : List Nat := [329, 331]
def zq_lp4 : List Nat := [212, 214, 216, 218, 220, 222]
def zq_lp5 : List Nat := [168, 170, 172, 174, 176, 178, 180, 182, 184, 186]
def zq_lp6 : List Nat := [310, 312, 314, 316, 318]
def zq_lp7 : List Nat := [463, 465, 467, 469, 471]
def zq_lp8 : List Nat := [275, 277, 279, 281, 283, 285, 287, 289, 291, 293, 295]
def zq_lp9 : List Nat := [502, 504, 506, 508, 510, 512, 514, 516, 518, 520, 522, 524, 526, 528, 530, 532, 534, 536]
def zq_lp10 : List Nat := [1346, 1348, 1350, 1352, 1354, 1356, 1358, 1360, 1362, 1364, 1366, 1368, 1370, 1372, 1374, 1376, 1378, 1380, 1382, 1384, 1386, 1388, 1390, 1392, 1394, 1396, 1398, 1400, 1402, 1404, 1406, 1408, 1410, 1412, 1414, 1416, 1418, 1420, 1422, 1424, 1426, 1428, 1430, 1432]
def zq_lps : List (List Nat) := [zq_lp0, zq_lp1, zq_lp2, zq_lp3, zq_lp4, zq_lp5, zq_lp6, zq_lp7, zq_lp8, zq_lp9, zq_lp10]
theorem zq_layk : ∀ ci, ci < 11 → ∀ k, k < zq_N ci → zq_has ((zq_lps.getD ci []).getD k 0) (u_lay (zq_R ci) (zq_Tf ci) k) = true := by decide +kernel
theorem zq_lay {ci : Nat} (h : ci < 11) : ∀ w ∈ u_ws (zq_R ci) (zq_Tf ci) (zq_N ci), w ∈ zq_WG := by
  intro w hw
  obtain ⟨k, hk, rfl⟩ := List.mem_map.mp hw
  exact zq_in (zq_layk ci h k (List.mem_range.mp hk))
abbrev zq_I : Type := MethodName × ByteArray × Nat × Option FieldType × Nat × Nat × Nat
def zq_m0 : zq_I := (⟨"RaffleArmy", "<init>", "()V"⟩, prog_1_method_1_code, 2, none, 9, 1, 2)
def zq_m1 : zq_I := (⟨"RaffleArmy$Tape", "<init>", "()V"⟩, prog_7_method_1_code, 1, none, 5, 1, 2)
def zq_m2 : zq_I := (⟨"RaffleArmy$State", "<init>", "()V"⟩, prog_6_method_1_code, 1, none, 4, 1, 2)
def zq_m3 : zq_I := (⟨"RaffleArmy$Notes", "<init>", "()V"⟩, prog_4_method_1_code, 1, none, 2, 1, 2)
def zq_m4 : zq_I := (⟨"RaffleArmy$Ways", "<init>", "()V"⟩, prog_10_method_1_code, 1, none, 8, 1, 2)
def zq_m5 : zq_I := (⟨"RaffleArmy$Trade", "<init>", "()V"⟩, prog_8_method_1_code, 1, none, 6, 1, 2)
def zq_m6 : zq_I := (⟨"RaffleArmy$Raffle", "<init>", "()V"⟩, prog_5_method_1_code, 1, none, 3, 1, 2)
def zq_m7 : zq_I := (⟨"RaffleArmy$Army", "<init>", "()V"⟩, prog_2_method_1_code, 1, none, 0, 1, 2)
def zq_m8 : zq_I := (⟨"RaffleArmy$Laws", "<init>", "()V"⟩, prog_3_method_1_code, 1, none, 1, 1, 2)
def zq_m9 : zq_I := (⟨"RaffleArmy$War", "<init>", "()V"⟩, prog_9_method_1_code, 1, none, 7, 1, 2)
def zq_m10 : zq_I := (⟨"RaffleArmy$State", "begin", "(LRaffleArmy$Army;)V"⟩, prog_6_method_2_code, 3, none, 4, 2, 1)
def zq_m11 : zq_I := (⟨"RaffleArmy", "put", "([III)V"⟩, prog_1_method_47_code, 3, none, 9, 3, 0)
def zq_m12 : zq_I := (⟨"RaffleArmy", "at", "([II)I"⟩, prog_1_method_46_code, 2, (some .int), 9, 2, 0)
def zq_m13 : zq_I := (⟨"RaffleArmy", "feed", "(JJJ)I"⟩, prog_1_method_2_code, 7, (some .int), 9, 4, 1)
def zq_m14 : zq_I := (⟨"RaffleArmy$Tape", "addEight", "(J)V"⟩, prog_7_method_2_code, 5, none, 5, 2, 1)
def zq_m15 : zq_I := (⟨"RaffleArmy", "army", "()I"⟩, prog_1_method_3_code, 3, (some .int), 9, 1, 1)
def zq_m16 : zq_I := (⟨"RaffleArmy$Army", "readFrom", "(LRaffleArmy$Tape;)I"⟩, prog_2_method_3_code, 4, (some .int), 0, 2, 1)
def zq_m17 : zq_I := (⟨"RaffleArmy$Army", "clear", "()V"⟩, prog_2_method_2_code, 1, none, 0, 1, 1)
def zq_m18 : zq_I := (⟨"RaffleArmy$Laws", "clear", "()V"⟩, prog_3_method_2_code, 2, none, 1, 1, 1)
def zq_m19 : zq_I := (⟨"RaffleArmy$Tape", "startReading", "()V"⟩, prog_7_method_3_code, 1, none, 5, 1, 1)
def zq_m20 : zq_I := (⟨"RaffleArmy$Tape", "step", "()V"⟩, prog_7_method_5_code, 4, none, 5, 1, 1)
def zq_m21 : zq_I := (⟨"RaffleArmy$Tape", "signAt", "(I)C"⟩, prog_7_method_6_code, 2, (some .char), 5, 2, 1)
def zq_m22 : zq_I := (⟨"RaffleArmy$Tape", "typeOf", "(C)I"⟩, prog_7_method_7_code, 2, (some .int), 5, 1, 0)
def zq_m23 : zq_I := (⟨"RaffleArmy$Tape", "wordOf", "(J)LRaffleArmy$Word;"⟩, prog_7_method_8_code, 3, (some (.object "RaffleArmy$Word")), 5, 1, 0)
def zq_m24 : zq_I := (⟨"RaffleArmy$Army", "readLine", "(LRaffleArmy$Tape;)Z"⟩, prog_2_method_4_code, 5, (some .boolean), 0, 2, 1)
def zq_m25 : zq_I := (⟨"RaffleArmy$Army", "readPost", "(LRaffleArmy$Tape;)Z"⟩, prog_2_method_7_code, 4, (some .boolean), 0, 2, 1)
def zq_m26 : zq_I := (⟨"RaffleArmy$Tape", "wrong", "(I)Z"⟩, prog_7_method_12_code, 2, (some .boolean), 5, 2, 1)
def zq_m27 : zq_I := (⟨"RaffleArmy$Army", "takeNewName", "(LRaffleArmy$Tape;)Z"⟩, prog_2_method_10_code, 2, (some .boolean), 0, 2, 1)
def zq_m28 : zq_I := (⟨"RaffleArmy$Tape", "isName", "()Z"⟩, prog_7_method_10_code, 1, (some .boolean), 5, 1, 1)
def zq_m29 : zq_I := (⟨"RaffleArmy$Army", "indexOf", "([JIJ)I"⟩, prog_2_method_12_code, 5, (some .int), 0, 3, 0)
def zq_m30 : zq_I := (⟨"RaffleArmy$Army", "manNamed", "(J)I"⟩, prog_2_method_11_code, 3, (some .int), 0, 2, 1)
def zq_m31 : zq_I := (⟨"RaffleArmy$Tape", "takeWhich", "(I)Z"⟩, prog_7_method_15_code, 2, (some .boolean), 5, 2, 1)
def zq_m32 : zq_I := (⟨"RaffleArmy$Tape", "which", "(I)I"⟩, prog_7_method_11_code, 2, (some .int), 5, 2, 1)
def zq_m33 : zq_I := (⟨"RaffleArmy$Tape", "takeWord", "(LRaffleArmy$Word;)Z"⟩, prog_7_method_14_code, 2, (some .boolean), 5, 2, 1)
def zq_m34 : zq_I := (⟨"RaffleArmy$Tape", "takeNumber", "(II)Z"⟩, prog_7_method_16_code, 3, (some .boolean), 5, 3, 1)
def zq_m35 : zq_I := (⟨"RaffleArmy", "within", "(III)Z"⟩, prog_1_method_44_code, 3, (some .boolean), 9, 3, 0)
def zq_m36 : zq_I := (⟨"RaffleArmy$Army", "readUnder", "(LRaffleArmy$Tape;)Z"⟩, prog_2_method_8_code, 3, (some .boolean), 0, 2, 1)
def zq_m37 : zq_I := (⟨"RaffleArmy$Tape", "takeSign", "(C)Z"⟩, prog_7_method_13_code, 2, (some .boolean), 5, 2, 1)
def zq_m38 : zq_I := (⟨"RaffleArmy$Tape", "isSign", "(C)Z"⟩, prog_7_method_9_code, 2, (some .boolean), 5, 2, 1)
def zq_m39 : zq_I := (⟨"RaffleArmy$Army", "readMan", "(LRaffleArmy$Tape;)Z"⟩, prog_2_method_9_code, 4, (some .boolean), 0, 2, 1)
def zq_m40 : zq_I := (⟨"RaffleArmy$Laws", "readLaw", "(LRaffleArmy$Tape;I)Z"⟩, prog_3_method_4_code, 4, (some .boolean), 1, 3, 1)
def zq_m41 : zq_I := (⟨"RaffleArmy$Laws", "readTests", "(LRaffleArmy$Tape;II)Z"⟩, prog_3_method_6_code, 7, (some .boolean), 1, 4, 1)
def zq_m42 : zq_I := (⟨"RaffleArmy$Laws", "readTest", "(LRaffleArmy$Tape;II)Z"⟩, prog_3_method_7_code, 6, (some .boolean), 1, 4, 1)
def zq_m43 : zq_I := (⟨"RaffleArmy$Laws", "readSum", "(LRaffleArmy$Tape;II)Z"⟩, prog_3_method_8_code, 7, (some .boolean), 1, 4, 1)
def zq_m44 : zq_I := (⟨"RaffleArmy$Laws", "readProduct", "(LRaffleArmy$Tape;II)Z"⟩, prog_3_method_9_code, 6, (some .boolean), 1, 4, 1)
def zq_m45 : zq_I := (⟨"RaffleArmy$Laws", "readPart", "(LRaffleArmy$Tape;II)Z"⟩, prog_3_method_10_code, 8, (some .boolean), 1, 4, 1)
def zq_m46 : zq_I := (⟨"RaffleArmy$Laws", "add", "(I)V"⟩, prog_3_method_5_code, 2, none, 1, 2, 1)
def zq_m47 : zq_I := (⟨"RaffleArmy$Army", "readOnce", "(LRaffleArmy$Tape;LRaffleArmy$Word;)Z"⟩, prog_2_method_5_code, 5, (some .boolean), 0, 3, 1)
def zq_m48 : zq_I := (⟨"RaffleArmy$Army", "readFront", "(LRaffleArmy$Tape;)Z"⟩, prog_2_method_6_code, 2, (some .boolean), 0, 2, 1)
def zq_m49 : zq_I := (⟨"RaffleArmy$Army", "fillTables", "()V"⟩, prog_2_method_13_code, 3, none, 0, 1, 1)
def zq_m50 : zq_I := (⟨"RaffleArmy$Army", "lawOfSkill", "(II)I"⟩, prog_2_method_14_code, 3, (some .int), 0, 3, 1)
def zq_m51 : zq_I := (⟨"RaffleArmy$Laws", "isTold", "(I)Z"⟩, prog_3_method_3_code, 2, (some .boolean), 1, 2, 1)
def zq_m52 : zq_I := (⟨"RaffleArmy$Army", "lawOf", "(III)I"⟩, prog_2_method_16_code, 4, (some .int), 0, 4, 1)
def zq_m53 : zq_I := (⟨"RaffleArmy$Laws", "value", "(IIIII)I"⟩, prog_3_method_11_code, 9, (some .int), 1, 6, 1)
def zq_m54 : zq_I := (⟨"RaffleArmy$Laws", "joined", "(III)I"⟩, prog_3_method_12_code, 3, (some .int), 1, 3, 0)
def zq_m55 : zq_I := (⟨"RaffleArmy", "clamp", "(III)I"⟩, prog_1_method_45_code, 3, (some .int), 9, 3, 0)
def zq_m56 : zq_I := (⟨"RaffleArmy$Army", "lawOfWorth", "(II)I"⟩, prog_2_method_15_code, 3, (some .int), 0, 3, 1)
def zq_m57 : zq_I := (⟨"RaffleArmy$Tape", "endReading", "()I"⟩, prog_7_method_4_code, 1, (some .int), 5, 1, 1)
def zq_m58 : zq_I := (⟨"RaffleArmy$Notes", "forget", "()V"⟩, prog_4_method_2_code, 1, none, 2, 1, 1)
def zq_m59 : zq_I := (⟨"RaffleArmy", "war", "()I"⟩, prog_1_method_4_code, 3, (some .int), 9, 1, 1)
def zq_m60 : zq_I := (⟨"RaffleArmy$War", "readFrom", "(LRaffleArmy$Tape;LRaffleArmy$Army;)I"⟩, prog_9_method_2_code, 5, (some .int), 7, 3, 1)
def zq_m61 : zq_I := (⟨"RaffleArmy$War", "readLine", "(LRaffleArmy$Tape;LRaffleArmy$Army;)Z"⟩, prog_9_method_3_code, 4, (some .boolean), 7, 3, 1)
def zq_m62 : zq_I := (⟨"RaffleArmy$War", "readRest", "(LRaffleArmy$Tape;LRaffleArmy$Army;I)Z"⟩, prog_9_method_4_code, 5, (some .boolean), 7, 4, 1)
def zq_m63 : zq_I := (⟨"RaffleArmy$War", "readSell", "(LRaffleArmy$Tape;LRaffleArmy$Army;)Z"⟩, prog_9_method_5_code, 5, (some .boolean), 7, 3, 1)
def zq_m64 : zq_I := (⟨"RaffleArmy$War", "takeMan", "(LRaffleArmy$Tape;LRaffleArmy$Army;I)Z"⟩, prog_9_method_6_code, 4, (some .boolean), 7, 3, 0)
def zq_m65 : zq_I := (⟨"RaffleArmy", "post", "(II)I"⟩, prog_1_method_5_code, 3, (some .int), 9, 3, 1)
def zq_m66 : zq_I := (⟨"RaffleArmy$Army", "hasPost", "(I)Z"⟩, prog_2_method_17_code, 2, (some .boolean), 0, 2, 1)
def zq_m67 : zq_I := (⟨"RaffleArmy$Army", "obeying", "([I)I"⟩, prog_2_method_22_code, 6, (some .int), 0, 2, 1)
def zq_m68 : zq_I := (⟨"RaffleArmy$Army", "skillOf", "(II)I"⟩, prog_2_method_19_code, 3, (some .int), 0, 3, 1)
def zq_m69 : zq_I := (⟨"RaffleArmy$Army", "hasMan", "(I)Z"⟩, prog_2_method_18_code, 2, (some .boolean), 0, 2, 1)
def zq_m70 : zq_I := (⟨"RaffleArmy", "man", "(II)I"⟩, prog_1_method_6_code, 3, (some .int), 9, 3, 1)
def zq_m71 : zq_I := (⟨"RaffleArmy$State", "postOf", "(I)I"⟩, prog_6_method_4_code, 3, (some .int), 4, 2, 1)
def zq_m72 : zq_I := (⟨"RaffleArmy", "skill", "(II)I"⟩, prog_1_method_7_code, 3, (some .int), 9, 3, 1)
def zq_m73 : zq_I := (⟨"RaffleArmy", "ours", "()I"⟩, prog_1_method_8_code, 1, (some .int), 9, 1, 1)
def zq_m74 : zq_I := (⟨"RaffleArmy$Army", "strength", "([I)I"⟩, prog_2_method_23_code, 7, (some .int), 0, 2, 1)
def zq_m75 : zq_I := (⟨"RaffleArmy$Army", "forceOf", "(II)I"⟩, prog_2_method_21_code, 3, (some .int), 0, 3, 1)
def zq_m76 : zq_I := (⟨"RaffleArmy", "draw", "(I)Z"⟩, prog_1_method_9_code, 2, (some .boolean), 9, 2, 1)
def zq_m77 : zq_I := (⟨"RaffleArmy", "remember", "()V"⟩, prog_1_method_34_code, 1, none, 9, 1, 1)
def zq_m78 : zq_I := (⟨"RaffleArmy$State", "copyFrom", "(LRaffleArmy$State;)V"⟩, prog_6_method_3_code, 3, none, 4, 2, 1)
def zq_m79 : zq_I := (⟨"RaffleArmy$Raffle", "sow", "(I)V"⟩, prog_5_method_2_code, 2, none, 3, 2, 1)
def zq_m80 : zq_I := (⟨"RaffleArmy$Raffle", "deal", "(LRaffleArmy$Army;LRaffleArmy$State;)V"⟩, prog_5_method_4_code, 6, none, 3, 3, 1)
def zq_m81 : zq_I := (⟨"RaffleArmy$Raffle", "below", "(I)I"⟩, prog_5_method_3_code, 2, (some .int), 3, 2, 1)
def zq_m82 : zq_I := (⟨"RaffleArmy", "sell", "(III)Z"⟩, prog_1_method_10_code, 4, (some .boolean), 9, 4, 1)
def zq_m83 : zq_I := (⟨"RaffleArmy$State", "canTrade", "(LRaffleArmy$Army;III)Z"⟩, prog_6_method_6_code, 5, (some .boolean), 4, 5, 1)
def zq_m84 : zq_I := (⟨"RaffleArmy$State", "trade", "(III)V"⟩, prog_6_method_7_code, 6, none, 4, 4, 1)
def zq_m85 : zq_I := (⟨"RaffleArmy", "order", "(I)Z"⟩, prog_1_method_11_code, 2, (some .boolean), 9, 2, 1)
def zq_m86 : zq_I := (⟨"RaffleArmy$State", "canCommand", "(I)Z"⟩, prog_6_method_8_code, 2, (some .boolean), 4, 2, 1)
def zq_m87 : zq_I := (⟨"RaffleArmy", "weeks", "(I)I"⟩, prog_1_method_12_code, 2, (some .int), 9, 2, 1)
def zq_m88 : zq_I := (⟨"RaffleArmy$State", "canPass", "(LRaffleArmy$Army;)Z"⟩, prog_6_method_9_code, 2, (some .boolean), 4, 2, 1)
def zq_m89 : zq_I := (⟨"RaffleArmy$State", "pass", "(LRaffleArmy$Army;I)I"⟩, prog_6_method_10_code, 5, (some .int), 4, 3, 1)
def zq_m90 : zq_I := (⟨"RaffleArmy$Army", "move", "(III)I"⟩, prog_2_method_24_code, 4, (some .int), 0, 4, 1)
def zq_m91 : zq_I := (⟨"java/lang/Integer", "compare", "(II)I"⟩, prog_17_method_40_code, 2, (some .int), 13, 2, 0)
def zq_m92 : zq_I := (⟨"RaffleArmy$Army", "after", "(II)I"⟩, prog_2_method_25_code, 3, (some .int), 0, 3, 1)
def zq_m93 : zq_I := (⟨"RaffleArmy", "undo", "()Z"⟩, prog_1_method_13_code, 2, (some .boolean), 9, 1, 1)
def zq_m94 : zq_I := (⟨"RaffleArmy", "judged", "(I)I"⟩, prog_1_method_14_code, 3, (some .int), 9, 2, 1)
def zq_m95 : zq_I := (⟨"RaffleArmy$War", "runOn", "(LRaffleArmy$Army;LRaffleArmy$State;LRaffleArmy$Raffle;)I"⟩, prog_9_method_7_code, 6, (some .int), 7, 4, 1)
def zq_m96 : zq_I := (⟨"RaffleArmy$War", "runLine", "(ILRaffleArmy$Army;LRaffleArmy$State;LRaffleArmy$Raffle;)Z"⟩, prog_9_method_8_code, 8, (some .boolean), 7, 5, 1)
def zq_m97 : zq_I := (⟨"RaffleArmy", "first", "()I"⟩, prog_1_method_15_code, 5, (some .int), 9, 1, 1)
def zq_m98 : zq_I := (⟨"RaffleArmy", "best", "(I)I"⟩, prog_1_method_16_code, 2, (some .int), 9, 2, 1)
def zq_m99 : zq_I := (⟨"RaffleArmy$Ways", "learn", "(LRaffleArmy$Army;)V"⟩, prog_10_method_2_code, 3, none, 8, 2, 1)
def zq_m100 : zq_I := (⟨"RaffleArmy$Ways", "place", "(LRaffleArmy$Army;III)V"⟩, prog_10_method_3_code, 6, none, 8, 5, 1)
def zq_m101 : zq_I := (⟨"RaffleArmy$Ways", "settle", "(LRaffleArmy$Army;)V"⟩, prog_10_method_4_code, 5, none, 8, 2, 1)
def zq_m102 : zq_I := (⟨"RaffleArmy", "mean", "()I"⟩, prog_1_method_17_code, 1, (some .int), 9, 1, 1)
def zq_m103 : zq_I := (⟨"RaffleArmy$Ways", "thousandths", "(J)I"⟩, prog_10_method_5_code, 3, (some .int), 8, 2, 1)
def zq_m104 : zq_I := (⟨"RaffleArmy", "loss", "()I"⟩, prog_1_method_18_code, 1, (some .int), 9, 1, 1)
def zq_m105 : zq_I := (⟨"RaffleArmy", "plan", "(II)I"⟩, prog_1_method_19_code, 5, (some .int), 9, 3, 1)
def zq_m106 : zq_I := (⟨"RaffleArmy$Ways", "furthest", "(LRaffleArmy$Army;II)J"⟩, prog_10_method_6_code, 11, (some .long), 8, 4, 1)
def zq_m107 : zq_I := (⟨"RaffleArmy", "power", "(II)J"⟩, prog_1_method_39_code, 5, (some .long), 9, 2, 0)
def zq_m108 : zq_I := (⟨"RaffleArmy$Ways", "spell", "(II)V"⟩, prog_10_method_7_code, 5, none, 8, 3, 1)
def zq_m109 : zq_I := (⟨"RaffleArmy$Ways", "reached", "(LRaffleArmy$Army;II)J"⟩, prog_10_method_8_code, 10, (some .long), 8, 4, 1)
def zq_m110 : zq_I := (⟨"RaffleArmy$Ways", "moveBy", "(II)I"⟩, prog_10_method_9_code, 3, (some .int), 8, 2, 0)
def zq_m111 : zq_I := (⟨"RaffleArmy", "swaps", "(I)I"⟩, prog_1_method_20_code, 2, (some .int), 9, 2, 1)
def zq_m112 : zq_I := (⟨"RaffleArmy$Trade", "swapAll", "(LRaffleArmy$Army;LRaffleArmy$State;)V"⟩, prog_8_method_2_code, 6, none, 6, 3, 1)
def zq_m113 : zq_I := (⟨"RaffleArmy$Trade", "swapRing", "(LRaffleArmy$Army;LRaffleArmy$State;II)I"⟩, prog_8_method_3_code, 9, (some .int), 6, 5, 1)
def zq_m114 : zq_I := (⟨"RaffleArmy$Trade", "likedBest", "(LRaffleArmy$Army;LRaffleArmy$State;II)I"⟩, prog_8_method_4_code, 8, (some .int), 6, 4, 0)
def zq_m115 : zq_I := (⟨"RaffleArmy$Army", "likingOf", "(II)I"⟩, prog_2_method_20_code, 3, (some .int), 0, 3, 1)
def zq_m116 : zq_I := (⟨"RaffleArmy", "leave", "()I"⟩, prog_1_method_21_code, 3, (some .int), 9, 1, 1)
def zq_m117 : zq_I := (⟨"RaffleArmy", "pool", "(I)I"⟩, prog_1_method_22_code, 2, (some .int), 9, 2, 1)
def zq_m118 : zq_I := (⟨"RaffleArmy", "canPool", "(I)Z"⟩, prog_1_method_35_code, 3, (some .boolean), 9, 2, 1)
def zq_m119 : zq_I := (⟨"RaffleArmy$Trade", "worthOf", "(LRaffleArmy$Army;LRaffleArmy$State;I)I"⟩, prog_8_method_5_code, 10, (some .int), 6, 4, 1)
def zq_m120 : zq_I := (⟨"java/lang/Integer", "bitCount", "(I)I"⟩, prog_17_method_49_code, 1, (some .int), 13, 1, 0)
def zq_m121 : zq_I := (⟨"RaffleArmy", "share", "(II)I"⟩, prog_1_method_23_code, 3, (some .int), 9, 3, 1)
def zq_m122 : zq_I := (⟨"RaffleArmy$Trade", "shareOf", "(LRaffleArmy$Army;LRaffleArmy$State;II)I"⟩, prog_8_method_6_code, 12, (some .int), 6, 5, 1)
def zq_m123 : zq_I := (⟨"RaffleArmy$Trade", "rowsOf", "(I)J"⟩, prog_8_method_7_code, 4, (some .long), 6, 1, 0)
def zq_m124 : zq_I := (⟨"RaffleArmy", "tell", "(II)Z"⟩, prog_1_method_24_code, 3, (some .boolean), 9, 3, 1)
def zq_m125 : zq_I := (⟨"RaffleArmy", "fair", "(II)I"⟩, prog_1_method_25_code, 3, (some .int), 9, 3, 1)
def zq_m126 : zq_I := (⟨"RaffleArmy", "canWeigh", "(II)Z"⟩, prog_1_method_36_code, 3, (some .boolean), 9, 3, 1)
def zq_m127 : zq_I := (⟨"RaffleArmy$Notes", "ticketsOf", "(I)I"⟩, prog_4_method_4_code, 4, (some .int), 2, 2, 1)
def zq_m128 : zq_I := (⟨"RaffleArmy", "chance", "(III)I"⟩, prog_1_method_37_code, 9, (some .int), 9, 4, 1)
def zq_m129 : zq_I := (⟨"RaffleArmy", "luckyWays", "(IIII)J"⟩, prog_1_method_38_code, 9, (some .long), 9, 4, 0)
def zq_m130 : zq_I := (⟨"RaffleArmy", "more", "(III)I"⟩, prog_1_method_26_code, 5, (some .int), 9, 4, 1)
def zq_m131 : zq_I := (⟨"RaffleArmy", "see", "(I)Z"⟩, prog_1_method_27_code, 2, (some .boolean), 9, 2, 1)
def zq_m132 : zq_I := (⟨"RaffleArmy", "orders", "(I)I"⟩, prog_1_method_28_code, 3, (some .int), 9, 2, 1)
def zq_m133 : zq_I := (⟨"RaffleArmy", "rowsSeen", "()I"⟩, prog_1_method_40_code, 8, (some .int), 9, 1, 1)
def zq_m134 : zq_I := (⟨"RaffleArmy", "putOff", "(I)I"⟩, prog_1_method_29_code, 4, (some .int), 9, 2, 1)
def zq_m135 : zq_I := (⟨"RaffleArmy", "fillDelays", "(I)V"⟩, prog_1_method_41_code, 7, none, 9, 2, 1)
def zq_m136 : zq_I := (⟨"RaffleArmy", "firstDelaying", "(I)I"⟩, prog_1_method_42_code, 5, (some .int), 9, 2, 1)
def zq_m137 : zq_I := (⟨"RaffleArmy", "years", "(III)I"⟩, prog_1_method_31_code, 8, (some .int), 9, 4, 1)
def zq_m138 : zq_I := (⟨"RaffleArmy", "mark", "(IZ)Z"⟩, prog_1_method_32_code, 3, (some .boolean), 9, 3, 1)
def zq_m139 : zq_I := (⟨"RaffleArmy$Notes", "copyFrom", "(LRaffleArmy$Notes;)V"⟩, prog_4_method_3_code, 3, none, 2, 2, 1)
def zq_m140 : zq_I := (⟨"RaffleArmy", "count", "(I)I"⟩, prog_1_method_33_code, 2, (some .int), 9, 2, 1)
def zq_m141 : zq_I := (⟨"RaffleArmy$State", "coinsOfAll", "(LRaffleArmy$Army;)I"⟩, prog_6_method_5_code, 4, (some .int), 4, 2, 1)
def zq_m142 : zq_I := (⟨"RaffleArmy", "rests", "(III)I"⟩, prog_1_method_30_code, 8, (some .int), 9, 4, 1)
def zq_m143 : zq_I := (⟨"RaffleArmy", "bestOf", "(II)I"⟩, prog_1_method_43_code, 2, (some .int), 9, 2, 0)
def zq_m144 : zq_I := (⟨"RaffleArmyModel", "thrown", "()I"⟩, prog_13_method_1_code, 1, (some .int), 10, 1, 1)
def zq_m145 : zq_I := (⟨"RaffleArmyModel", "feed", "(JJJ)I"⟩, prog_13_method_2_code, 7, (some .int), 10, 4, 1)
def zq_m146 : zq_I := (⟨"RaffleArmyModel", "lay", "(J)V"⟩, prog_13_method_3_code, 5, none, 10, 2, 1)
def zq_m147 : zq_I := (⟨"RaffleArmyModel", "<init>", "()V"⟩, prog_13_method_4_code, 1, none, 10, 1, 2)
def zq_m148 : zq_I := (⟨"RaffleArmyModel", "standsAsAlways", "(I)V"⟩, prog_13_method_18_code, 3, none, 10, 2, 1)
def zq_m149 : zq_I := (⟨"RaffleArmyModel", "begins", "()V"⟩, prog_13_method_43_code, 2, none, 10, 1, 1)
def zq_m150 : zq_I := (⟨"RaffleArmyModel", "starts", "(I)V"⟩, prog_13_method_42_code, 3, none, 10, 2, 1)
def zq_m151 : zq_I := (⟨"RaffleArmyModel", "posts", "()I"⟩, prog_13_method_45_code, 1, (some .int), 10, 1, 1)
def zq_m152 : zq_I := (⟨"RaffleArmyModel", "men", "()I"⟩, prog_13_method_46_code, 1, (some .int), 10, 1, 1)
def zq_m153 : zq_I := (⟨"RaffleArmyModel", "manOf", "(II)I"⟩, prog_13_method_50_code, 3, (some .int), 10, 3, 1)
def zq_m154 : zq_I := (⟨"RaffleArmyModel", "army", "()I"⟩, prog_13_method_26_code, 2, (some .int), 10, 1, 1)
def zq_m155 : zq_I := (⟨"RaffleArmyModel", "cutAll", "()V"⟩, prog_13_method_9_code, 7, none, 10, 1, 1)
def zq_m156 : zq_I := (⟨"RaffleArmyModel", "isLetter", "(I)Z"⟩, prog_13_method_5_code, 1, (some .boolean), 10, 1, 0)
def zq_m157 : zq_I := (⟨"RaffleArmyModel", "rank", "(I)I"⟩, prog_13_method_7_code, 1, (some .int), 10, 1, 0)
def zq_m158 : zq_I := (⟨"RaffleArmyModel", "isDigit", "(I)Z"⟩, prog_13_method_6_code, 1, (some .boolean), 10, 1, 0)
def zq_m159 : zq_I := (⟨"RaffleArmyModel", "isSignOf", "(I)Z"⟩, prog_13_method_8_code, 1, (some .boolean), 10, 1, 0)
def zq_m160 : zq_I := (⟨"RaffleArmyModel", "isWord", "(I)Z"⟩, prog_13_method_12_code, 2, (some .boolean), 10, 2, 1)
def zq_m161 : zq_I := (⟨"RaffleArmyModel", "readPost", "()V"⟩, prog_13_method_28_code, 4, none, 10, 1, 1)
def zq_m162 : zq_I := (⟨"RaffleArmyModel", "wrong", "(I)V"⟩, prog_13_method_10_code, 2, none, 10, 2, 1)
def zq_m163 : zq_I := (⟨"RaffleArmyModel", "readName", "(I)V"⟩, prog_13_method_27_code, 2, none, 10, 2, 1)
def zq_m164 : zq_I := (⟨"RaffleArmyModel", "isName", "()Z"⟩, prog_13_method_23_code, 1, (some .boolean), 10, 1, 1)
def zq_m165 : zq_I := (⟨"RaffleArmyModel", "wordHere", "(II)I"⟩, prog_13_method_21_code, 5, (some .int), 10, 3, 1)
def zq_m166 : zq_I := (⟨"RaffleArmyModel", "find", "(Z)I"⟩, prog_13_method_24_code, 3, (some .int), 10, 2, 1)
def zq_m167 : zq_I := (⟨"RaffleArmyModel", "takeOne", "(II)I"⟩, prog_13_method_22_code, 4, (some .int), 10, 3, 1)
def zq_m168 : zq_I := (⟨"RaffleArmyModel", "takeAfter", "(III)I"⟩, prog_13_method_20_code, 4, (some .int), 10, 4, 1)
def zq_m169 : zq_I := (⟨"RaffleArmyModel", "takeWord", "(I)V"⟩, prog_13_method_16_code, 2, none, 10, 2, 1)
def zq_m170 : zq_I := (⟨"RaffleArmyModel", "hasWord", "(I)Z"⟩, prog_13_method_15_code, 3, (some .boolean), 10, 2, 1)
def zq_m171 : zq_I := (⟨"RaffleArmyModel", "takeNumber", "(II)I"⟩, prog_13_method_19_code, 3, (some .int), 10, 3, 1)
def zq_m172 : zq_I := (⟨"RaffleArmyModel", "toldHere", "(ZII)I"⟩, prog_13_method_25_code, 5, (some .int), 10, 4, 1)
def zq_m173 : zq_I := (⟨"RaffleArmyModel", "within", "(III)Z"⟩, prog_13_method_17_code, 3, (some .boolean), 10, 3, 0)
def zq_m174 : zq_I := (⟨"RaffleArmyModel", "readMan", "()V"⟩, prog_13_method_29_code, 3, none, 10, 1, 1)
def zq_m175 : zq_I := (⟨"RaffleArmyModel", "readOnce", "()V"⟩, prog_13_method_30_code, 2, none, 10, 1, 1)
def zq_m176 : zq_I := (⟨"RaffleArmyModel", "all", "(I)V"⟩, prog_13_method_34_code, 3, none, 10, 2, 1)
def zq_m177 : zq_I := (⟨"RaffleArmyModel", "test", "(I)V"⟩, prog_13_method_35_code, 3, none, 10, 2, 1)
def zq_m178 : zq_I := (⟨"RaffleArmyModel", "sums", "(I)V"⟩, prog_13_method_36_code, 3, none, 10, 2, 1)
def zq_m179 : zq_I := (⟨"RaffleArmyModel", "products", "(I)V"⟩, prog_13_method_37_code, 2, none, 10, 2, 1)
def zq_m180 : zq_I := (⟨"RaffleArmyModel", "takePart", "(I)V"⟩, prog_13_method_38_code, 4, none, 10, 2, 1)
def zq_m181 : zq_I := (⟨"RaffleArmyModel", "isSign", "(I)Z"⟩, prog_13_method_11_code, 2, (some .boolean), 10, 2, 1)
def zq_m182 : zq_I := (⟨"RaffleArmyModel", "emit", "(II)V"⟩, prog_13_method_33_code, 3, none, 10, 3, 1)
def zq_m183 : zq_I := (⟨"RaffleArmyModel", "hasSign", "(I)Z"⟩, prog_13_method_14_code, 3, (some .boolean), 10, 2, 1)
def zq_m184 : zq_I := (⟨"RaffleArmyModel", "takeSign", "(I)V"⟩, prog_13_method_13_code, 2, none, 10, 2, 1)
def zq_m185 : zq_I := (⟨"RaffleArmyModel", "war", "()I"⟩, prog_13_method_31_code, 3, (some .int), 10, 1, 1)
def zq_m186 : zq_I := (⟨"RaffleArmyModel", "readWar", "(II)V"⟩, prog_13_method_32_code, 3, none, 10, 3, 1)
def zq_m187 : zq_I := (⟨"RaffleArmyModel", "post", "(II)I"⟩, prog_13_method_61_code, 3, (some .int), 10, 3, 1)
def zq_m188 : zq_I := (⟨"RaffleArmyModel", "isPost", "(I)Z"⟩, prog_13_method_51_code, 2, (some .boolean), 10, 2, 1)
def zq_m189 : zq_I := (⟨"RaffleArmyModel", "laysHeld", "(I)V"⟩, prog_13_method_59_code, 3, none, 10, 2, 1)
def zq_m190 : zq_I := (⟨"RaffleArmyModel", "laysSkills", "()V"⟩, prog_13_method_56_code, 3, none, 10, 1, 1)
def zq_m191 : zq_I := (⟨"RaffleArmyModel", "skillOf", "(II)I"⟩, prog_13_method_55_code, 4, (some .int), 10, 3, 1)
def zq_m192 : zq_I := (⟨"RaffleArmyModel", "laysFacts", "(II)V"⟩, prog_13_method_54_code, 3, none, 10, 3, 1)
def zq_m193 : zq_I := (⟨"RaffleArmyModel", "postOf", "(II)I"⟩, prog_13_method_49_code, 3, (some .int), 10, 3, 1)
def zq_m194 : zq_I := (⟨"RaffleArmyModel", "worthAt", "(I)I"⟩, prog_13_method_39_code, 5, (some .int), 10, 2, 1)
def zq_m195 : zq_I := (⟨"RaffleArmyModel", "both", "(III)I"⟩, prog_13_method_40_code, 3, (some .int), 10, 3, 0)
def zq_m196 : zq_I := (⟨"RaffleArmyModel", "doesObey", "(I)Z"⟩, prog_13_method_57_code, 4, (some .boolean), 10, 2, 1)
def zq_m197 : zq_I := (⟨"RaffleArmyModel", "man", "(II)I"⟩, prog_13_method_62_code, 3, (some .int), 10, 3, 1)
def zq_m198 : zq_I := (⟨"RaffleArmyModel", "isMan", "(I)Z"⟩, prog_13_method_52_code, 2, (some .boolean), 10, 2, 1)
def zq_m199 : zq_I := (⟨"RaffleArmyModel", "postHeldBy", "(II)I"⟩, prog_13_method_53_code, 5, (some .int), 10, 3, 1)
def zq_m200 : zq_I := (⟨"RaffleArmyModel", "skill", "(II)I"⟩, prog_13_method_63_code, 3, (some .int), 10, 3, 1)
def zq_m201 : zq_I := (⟨"RaffleArmyModel", "ours", "()I"⟩, prog_13_method_64_code, 1, (some .int), 10, 1, 1)
def zq_m202 : zq_I := (⟨"RaffleArmyModel", "oursOf", "(I)I"⟩, prog_13_method_60_code, 2, (some .int), 10, 2, 1)
def zq_m203 : zq_I := (⟨"RaffleArmyModel", "oursNow", "()I"⟩, prog_13_method_58_code, 5, (some .int), 10, 1, 1)
def zq_m204 : zq_I := (⟨"RaffleArmyModel", "draw", "(I)Z"⟩, prog_13_method_70_code, 2, (some .boolean), 10, 2, 1)
def zq_m205 : zq_I := (⟨"RaffleArmyModel", "keeps", "()V"⟩, prog_13_method_44_code, 2, none, 10, 1, 1)
def zq_m206 : zq_I := (⟨"RaffleArmyModel", "copies", "(III)V"⟩, prog_13_method_41_code, 5, none, 10, 4, 1)
def zq_m207 : zq_I := (⟨"RaffleArmyModel", "draws", "(I)V"⟩, prog_13_method_69_code, 5, none, 10, 2, 1)
def zq_m208 : zq_I := (⟨"RaffleArmyModel", "drawBelow", "(I)I"⟩, prog_13_method_68_code, 2, (some .int), 10, 2, 1)
def zq_m209 : zq_I := (⟨"RaffleArmyModel", "sell", "(III)Z"⟩, prog_13_method_73_code, 4, (some .boolean), 10, 4, 1)
def zq_m210 : zq_I := (⟨"RaffleArmyModel", "maySell", "(IIII)Z"⟩, prog_13_method_71_code, 5, (some .boolean), 10, 5, 1)
def zq_m211 : zq_I := (⟨"RaffleArmyModel", "sells", "(IIII)V"⟩, prog_13_method_72_code, 7, none, 10, 5, 1)
def zq_m212 : zq_I := (⟨"RaffleArmyModel", "order", "(I)Z"⟩, prog_13_method_74_code, 2, (some .boolean), 10, 2, 1)
def zq_m213 : zq_I := (⟨"RaffleArmyModel", "weeks", "(I)I"⟩, prog_13_method_77_code, 2, (some .int), 10, 2, 1)
def zq_m214 : zq_I := (⟨"RaffleArmyModel", "isEnd", "(I)Z"⟩, prog_13_method_67_code, 2, (some .boolean), 10, 2, 1)
def zq_m215 : zq_I := (⟨"RaffleArmyModel", "cells", "()I"⟩, prog_13_method_48_code, 1, (some .int), 10, 1, 1)
def zq_m216 : zq_I := (⟨"RaffleArmyModel", "isOver", "(I)Z"⟩, prog_13_method_75_code, 2, (some .boolean), 10, 2, 1)
def zq_m217 : zq_I := (⟨"RaffleArmyModel", "passes", "(II)I"⟩, prog_13_method_76_code, 5, (some .int), 10, 3, 1)
def zq_m218 : zq_I := (⟨"RaffleArmyModel", "goesBy", "(III)I"⟩, prog_13_method_65_code, 5, (some .int), 10, 4, 1)
def zq_m219 : zq_I := (⟨"RaffleArmyModel", "bounded", "(I)I"⟩, prog_13_method_66_code, 2, (some .int), 10, 2, 1)
def zq_m220 : zq_I := (⟨"RaffleArmyModel", "undo", "()Z"⟩, prog_13_method_78_code, 1, (some .boolean), 10, 1, 1)
def zq_m221 : zq_I := (⟨"RaffleArmyModel", "judged", "(I)I"⟩, prog_13_method_80_code, 5, (some .int), 10, 2, 1)
def zq_m222 : zq_I := (⟨"RaffleArmyModel", "does", "(I)Z"⟩, prog_13_method_79_code, 5, (some .boolean), 10, 2, 1)
def zq_m223 : zq_I := (⟨"RaffleArmyModel", "first", "()I"⟩, prog_13_method_81_code, 3, (some .int), 10, 1, 1)
def zq_m224 : zq_I := (⟨"RaffleArmyModel", "best", "(I)I"⟩, prog_13_method_85_code, 2, (some .int), 10, 2, 1)
def zq_m225 : zq_I := (⟨"RaffleArmyModel", "goesThroughWays", "()V"⟩, prog_13_method_84_code, 1, none, 10, 1, 1)
def zq_m226 : zq_I := (⟨"RaffleArmyModel", "gives", "(III)V"⟩, prog_13_method_83_code, 5, none, 10, 4, 1)
def zq_m227 : zq_I := (⟨"RaffleArmyModel", "looks", "()V"⟩, prog_13_method_82_code, 3, none, 10, 1, 1)
def zq_m228 : zq_I := (⟨"RaffleArmyModel", "fewer", "()I"⟩, prog_13_method_47_code, 1, (some .int), 10, 1, 1)
def zq_m229 : zq_I := (⟨"RaffleArmyModel", "mean", "()I"⟩, prog_13_method_86_code, 1, (some .int), 10, 1, 1)
def zq_m230 : zq_I := (⟨"RaffleArmyModel", "loss", "()I"⟩, prog_13_method_87_code, 1, (some .int), 10, 1, 1)
def zq_m231 : zq_I := (⟨"RaffleArmyModel", "plan", "(II)I"⟩, prog_13_method_90_code, 10, (some .int), 10, 3, 1)
def zq_m232 : zq_I := (⟨"RaffleArmyModel", "frontsBy", "(II)J"⟩, prog_13_method_88_code, 9, (some .long), 10, 3, 1)
def zq_m233 : zq_I := (⟨"RaffleArmyModel", "turned", "(II)I"⟩, prog_13_method_89_code, 5, (some .int), 10, 2, 0)
def zq_m234 : zq_I := (⟨"RaffleArmyModel", "swaps", "(I)I"⟩, prog_13_method_95_code, 2, (some .int), 10, 2, 1)
def zq_m235 : zq_I := (⟨"RaffleArmyModel", "findSwaps", "()V"⟩, prog_13_method_94_code, 4, none, 10, 1, 1)
def zq_m236 : zq_I := (⟨"RaffleArmyModel", "findLooks", "(I)V"⟩, prog_13_method_92_code, 6, none, 10, 2, 1)
def zq_m237 : zq_I := (⟨"RaffleArmyModel", "likes", "(II)I"⟩, prog_13_method_91_code, 3, (some .int), 10, 3, 1)
def zq_m238 : zq_I := (⟨"RaffleArmyModel", "isInRing", "(I)Z"⟩, prog_13_method_93_code, 4, (some .boolean), 10, 2, 1)
def zq_m239 : zq_I := (⟨"RaffleArmyModel", "leave", "()I"⟩, prog_13_method_96_code, 3, (some .int), 10, 1, 1)
def zq_m240 : zq_I := (⟨"RaffleArmyModel", "pool", "(I)I"⟩, prog_13_method_100_code, 2, (some .int), 10, 2, 1)
def zq_m241 : zq_I := (⟨"RaffleArmyModel", "arePooled", "(I)Z"⟩, prog_13_method_99_code, 4, (some .boolean), 10, 2, 1)
def zq_m242 : zq_I := (⟨"RaffleArmyModel", "poolOf", "(I)I"⟩, prog_13_method_98_code, 4, (some .int), 10, 2, 1)
def zq_m243 : zq_I := (⟨"RaffleArmyModel", "pools", "(III)V"⟩, prog_13_method_97_code, 6, none, 10, 4, 1)
def zq_m244 : zq_I := (⟨"RaffleArmyModel", "share", "(II)I"⟩, prog_13_method_103_code, 7, (some .int), 10, 3, 1)
def zq_m245 : zq_I := (⟨"RaffleArmyModel", "bits", "(I)I"⟩, prog_13_method_101_code, 3, (some .int), 10, 1, 0)
def zq_m246 : zq_I := (⟨"RaffleArmyModel", "orders0", "(I)J"⟩, prog_13_method_102_code, 4, (some .long), 10, 1, 0)
def zq_m247 : zq_I := (⟨"RaffleArmyModel", "tell", "(II)Z"⟩, prog_13_method_104_code, 3, (some .boolean), 10, 3, 1)
def zq_m248 : zq_I := (⟨"RaffleArmyModel", "fair", "(II)I"⟩, prog_13_method_108_code, 3, (some .int), 10, 3, 1)
def zq_m249 : zq_I := (⟨"RaffleArmyModel", "toldOf", "(II)I"⟩, prog_13_method_105_code, 5, (some .int), 10, 3, 1)
def zq_m250 : zq_I := (⟨"RaffleArmyModel", "fairBy", "(III)I"⟩, prog_13_method_106_code, 13, (some .int), 10, 4, 1)
def zq_m251 : zq_I := (⟨"RaffleArmyModel", "millionths", "(JJ)I"⟩, prog_13_method_107_code, 8, (some .int), 10, 2, 0)
def zq_m252 : zq_I := (⟨"RaffleArmyModel", "more", "(III)I"⟩, prog_13_method_109_code, 5, (some .int), 10, 4, 1)
def zq_m253 : zq_I := (⟨"RaffleArmyModel", "see", "(I)Z"⟩, prog_13_method_110_code, 2, (some .boolean), 10, 2, 1)
def zq_m254 : zq_I := (⟨"RaffleArmyModel", "orders", "(I)I"⟩, prog_13_method_113_code, 4, (some .int), 10, 2, 1)
def zq_m255 : zq_I := (⟨"RaffleArmyModel", "laysGoes", "()V"⟩, prog_13_method_112_code, 3, none, 10, 1, 1)
def zq_m256 : zq_I := (⟨"RaffleArmyModel", "rowsFrom", "(III)V"⟩, prog_13_method_111_code, 6, none, 10, 4, 1)
def zq_m257 : zq_I := (⟨"RaffleArmyModel", "putOff", "(I)I"⟩, prog_13_method_116_code, 5, (some .int), 10, 2, 1)
def zq_m258 : zq_I := (⟨"RaffleArmyModel", "bestOff", "(II)I"⟩, prog_13_method_115_code, 5, (some .int), 10, 3, 1)
def zq_m259 : zq_I := (⟨"RaffleArmyModel", "offBy", "(III)I"⟩, prog_13_method_114_code, 5, (some .int), 10, 4, 1)
def zq_m260 : zq_I := (⟨"RaffleArmyModel", "rests", "(III)I"⟩, prog_13_method_118_code, 10, (some .int), 10, 4, 1)
def zq_m261 : zq_I := (⟨"RaffleArmyModel", "wayBy", "(IIII)I"⟩, prog_13_method_117_code, 5, (some .int), 10, 5, 1)
def zq_m262 : zq_I := (⟨"RaffleArmyModel", "years", "(III)I"⟩, prog_13_method_119_code, 10, (some .int), 10, 4, 1)
def zq_m263 : zq_I := (⟨"RaffleArmyModel", "mark", "(IZ)Z"⟩, prog_13_method_120_code, 3, (some .boolean), 10, 3, 1)
def zq_m264 : zq_I := (⟨"RaffleArmyModel", "count", "(I)I"⟩, prog_13_method_121_code, 4, (some .int), 10, 2, 1)
def zq_MT0 : List zq_I := [zq_m0, zq_m1, zq_m2, zq_m3, zq_m4, zq_m5, zq_m6, zq_m7, zq_m8, zq_m9, zq_m10, zq_m11, zq_m12, zq_m13, zq_m14, zq_m15]
def zq_MT1 : List zq_I := [zq_m16, zq_m17, zq_m18, zq_m19, zq_m20, zq_m21, zq_m22, zq_m23, zq_m24, zq_m25, zq_m26, zq_m27, zq_m28, zq_m29, zq_m30, zq_m31]
def zq_MT2 : List zq_I := [zq_m32, zq_m33, zq_m34, zq_m35, zq_m36, zq_m37, zq_m38, zq_m39, zq_m40, zq_m41, zq_m42, zq_m43, zq_m44, zq_m45, zq_m46, zq_m47]
def zq_MT3 : List zq_I := [zq_m48, zq_m49, zq_m50, zq_m51, zq_m52, zq_m53, zq_m54, zq_m55, zq_m56, zq_m57, zq_m58, zq_m59, zq_m60, zq_m61, zq_m62, zq_m63]
def zq_MT4 : List zq_I := [zq_m64, zq_m65, zq_m66, zq_m67, zq_m68, zq_m69, zq_m70, zq_m71, zq_m72, zq_m73, zq_m74, zq_m75, zq_m76, zq_m77, zq_m78, zq_m79]
def zq_MT5 : List zq_I := [zq_m80, zq_m81, zq_m82, zq_m83, zq_m84, zq_m85, zq_m86, zq_m87, zq_m88, zq_m89, zq_m90, zq_m91, zq_m92, zq_m93, zq_m94, zq_m95]
def zq_MT6 : List zq_I := [zq_m96, zq_m97, zq_m98, zq_m99, zq_m100, zq_m101, zq_m102, zq_m103, zq_m104, zq_m105, zq_m106, zq_m107, zq_m108, zq_m109, zq_m110, zq_m111]
def zq_MT7 : List zq_I := [zq_m112, zq_m113, zq_m114, zq_m115, zq_m116, zq_m117, zq_m118, zq_m119, zq_m120, zq_m121, zq_m122, zq_m123, zq_m124, zq_m125, zq_m126, zq_m127]
def zq_MT8 : List zq_I := [zq_m128, zq_m129, zq_m130, zq_m131, zq_m132, zq_m133, zq_m134, zq_m135, zq_m136, zq_m137, zq_m138, zq_m139, zq_m140, zq_m141, zq_m142, zq_m143]
def zq_MT9 : List zq_I := [zq_m144, zq_m145, zq_m146, zq_m147, zq_m148, zq_m149, zq_m150, zq_m151, zq_m152, zq_m153, zq_m154, zq_m155, zq_m156, zq_m157, zq_m158, zq_m159]
def zq_MT10 : List zq_I := [zq_m160, zq_m161, zq_m162, zq_m163, zq_m164, zq_m165, zq_m166, zq_m167, zq_m168, zq_m169, zq_m170, zq_m171, zq_m172, zq_m173, zq_m174, zq_m175]
def zq_MT11 : List zq_I := [zq_m176, zq_m177, zq_m178, zq_m179, zq_m180, zq_m181, zq_m182, zq_m183, zq_m184, zq_m185, zq_m186, zq_m187, zq_m188, zq_m189, zq_m190, zq_m191]
def zq_MT12 : List zq_I := [zq_m192, zq_m193, zq_m194, zq_m195, zq_m196, zq_m197, zq_m198, zq_m199, zq_m200, zq_m201, zq_m202, zq_m203, zq_m204, zq_m205, zq_m206, zq_m207]
def zq_MT13 : List zq_I := [zq_m208, zq_m209, zq_m210, zq_m211, zq_m212, zq_m213, zq_m214, zq_m215, zq_m216, zq_m217, zq_m218, zq_m219, zq_m220, zq_m221, zq_m222, zq_m223]
def zq_MT14 : List zq_I := [zq_m224, zq_m225, zq_m226, zq_m227, zq_m228, zq_m229, zq_m230, zq_m231, zq_m232, zq_m233, zq_m234, zq_m235, zq_m236, zq_m237, zq_m238, zq_m239]
def zq_MT15 : List zq_I := [zq_m240, zq_m241, zq_m242, zq_m243, zq_m244, zq_m245, zq_m246, zq_m247, zq_m248, zq_m249, zq_m250, zq_m251, zq_m252, zq_m253, zq_m254, zq_m255]
def zq_MT16 : List zq_I := [zq_m256, zq_m257, zq_m258, zq_m259, zq_m260, zq_m261, zq_m262, zq_m263, zq_m264]
def zq_MT : List zq_I := zq_MT0 ++ (zq_MT1 ++ (zq_MT2 ++ (zq_MT3 ++ (zq_MT4 ++ (zq_MT5 ++ (zq_MT6 ++ (zq_MT7 ++ (zq_MT8 ++ (zq_MT9 ++ (zq_MT10 ++ (zq_MT11 ++ (zq_MT12 ++ (zq_MT13 ++ (zq_MT14 ++ (zq_MT15 ++ (zq_MT16))))))))))))))))
/-- the word of a method's code is among the tables -/
def zq_cw (q : zq_I) : Cond := .code q.1 q.2.1 q.2.2.1 q.2.2.2.1
set_option maxRecDepth 20000 in
theorem zq_c0 : zq_cw zq_m0 ∈ zq_WG := List.mem_filter.mpr ⟨List.mem_append_right _ (List.mem_of_getElem? (i := 24) rfl), rfl⟩
set_option maxRecDepth 20000 in
theorem zq_c1 : zq_cw zq_m1 ∈ zq_WG := List.mem_filter.mpr ⟨List.mem_append_right _ (List.mem_of_getElem? (i := 32) rfl), rfl⟩
set_option maxRecDepth 20000 in
theorem zq_c2 : zq_cw zq_m2 ∈ zq_WG := List.mem_filter.mpr ⟨List.mem_append_right _ (List.mem_of_getElem? (i := 81) rfl), rfl⟩
set_option maxRecDepth 20000 in
theorem zq_c3 : zq_cw zq_m3 ∈ zq_WG := List.mem_filter.mpr ⟨List.mem_append_right _ (List.mem_of_getElem? (i := 117) rfl), rfl⟩
set_option maxRecDepth 20000 in
theorem zq_c4 : zq_cw zq_m4 ∈ zq_WG := List.mem_filter.mpr ⟨List.mem_append_right _ (List.mem_of_getElem? (i := 144) rfl), rfl⟩
set_option maxRecDepth 20000 in
theorem zq_c5 : zq_cw zq_m5 ∈ zq_WG := List.mem_filter.mpr ⟨List.mem_append_right _ (List.mem_of_getElem? (i := 189) rfl), rfl⟩
set_option maxRecDepth 20000 in
theorem zq_c6 : zq_cw zq_m6 ∈ zq_WG := List.mem_filter.mpr ⟨List.mem_append_right _ (List.mem_of_getElem? (i := 212) rfl), rfl⟩
set_option maxRecDepth 20000 in
theorem zq_c7 : zq_cw zq_m7 ∈ zq_WG := List.mem_filter.mpr ⟨List.mem_append_right _ (List.mem_of_getElem? (i := 227) rfl), rfl⟩
set_option maxRecDepth 20000 in
theorem zq_c8 : zq_cw zq_m8 ∈ zq_WG := List.mem_filter.mpr ⟨List.mem_append_right _ (List.mem_of_getElem? (i := 233) rfl), rfl⟩
set_option maxRecDepth 20000 in
theorem zq_c9 : zq_cw zq_m9 ∈ zq_WG := List.mem_filter.mpr ⟨List.mem_append_right _ (List.mem_of_getElem? (i := 342) rfl), rfl⟩
set_option maxRecDepth 20000 in
theorem zq_c10 : zq_cw zq_m10 ∈ zq_WG := List.mem_filter.mpr ⟨List.mem_append_right _ (List.mem_of_getElem? (i := 364) rfl), rfl⟩
set_option maxRecDepth 20000 in
theorem zq_c11 : zq_cw zq_m11 ∈ zq_WG := List.mem_filter.mpr ⟨List.mem_append_right _ (List.mem_of_getElem? (i := 367) rfl), rfl⟩
set_option maxRecDepth 20000 in
theorem zq_c12 : zq_cw zq_m12 ∈ zq_WG := List.mem_filter.mpr ⟨List.mem_append_right _ (List.mem_of_getElem? (i := 370) rfl), rfl⟩
set_option maxRecDepth 20000 in
theorem zq_c13 : zq_cw zq_m13 ∈ zq_WG := List.mem_filter.mpr ⟨List.mem_append_right _ (List.mem_of_getElem? (i := 429) rfl), rfl⟩
set_option maxRecDepth 20000 in
theorem zq_c14 : zq_cw zq_m14 ∈ zq_WG := List.mem_filter.mpr ⟨List.mem_append_right _ (List.mem_of_getElem? (i := 433) rfl), rfl⟩
set_option maxRecDepth 20000 in
theorem zq_c15 : zq_cw zq_m15 ∈ zq_WG := List.mem_filter.mpr ⟨List.mem_append_right _ (List.mem_of_getElem? (i := 438) rfl), rfl⟩
set_option maxRecDepth 20000 in
theorem zq_c16 : zq_cw zq_m16 ∈ zq_WG := List.mem_filter.mpr ⟨List.mem_append_right _ (List.mem_of_getElem? (i := 442) rfl), rfl⟩
set_option maxRecDepth 20000 in
theorem zq_c17 : zq_cw zq_m17 ∈ zq_WG := List.mem_filter.mpr ⟨List.mem_append_right _ (List.mem_of_getElem? (i := 446) rfl), rfl⟩
set_option maxRecDepth 20000 in
theorem zq_c18 : zq_cw zq_m18 ∈ zq_WG := List.mem_filter.mpr ⟨List.mem_append_right _ (List.mem_of_getElem? (i := 450) rfl), rfl⟩
set_option maxRecDepth 20000 in
theorem zq_c19 : zq_cw zq_m19 ∈ zq_WG := List.mem_filter.mpr ⟨List.mem_append_right _ (List.mem_of_getElem? (i := 455) rfl), rfl⟩
set_option maxRecDepth 20000 in
theorem zq_c20 : zq_cw zq_m20 ∈ zq_WG := List.mem_filter.mpr ⟨List.mem_append_right _ (List.mem_of_getElem? (i := 459) rfl), rfl⟩
set_option maxRecDepth 20000 in
theorem zq_c21 : zq_cw zq_m21 ∈ zq_WG := List.mem_filter.mpr ⟨List.mem_append_right _ (List.mem_of_getElem? (i := 463) rfl), rfl⟩
set_option maxRecDepth 20000 in
theorem zq_c22 : zq_cw zq_m22 ∈ zq_WG := List.mem_filter.mpr ⟨List.mem_append_right _ (List.mem_of_getElem? (i := 466) rfl), rfl⟩
set_option maxRecDepth 20000 in
theorem zq_c23 : zq_cw zq_m23 ∈ zq_WG := List.mem_filter.mpr ⟨List.mem_append_right _ (List.mem_of_getElem? (i := 469) rfl), rfl⟩
set_option maxRecDepth 20000 in
theorem zq_c24 : zq_cw zq_m24 ∈ zq_WG := List.mem_filter.mpr ⟨List.mem_append_right _ (List.mem_of_getElem? (i := 475) rfl), rfl⟩
set_option maxRecDepth 20000 in
theorem zq_c25 : zq_cw zq_m25 ∈ zq_WG := List.mem_filter.mpr ⟨List.mem_append_right _ (List.mem_of_getElem? (i := 481) rfl), rfl⟩
set_option maxRecDepth 20000 in
theorem zq_c26 : zq_cw zq_m26 ∈ zq_WG := List.mem_filter.mpr ⟨List.mem_append_right _ (List.mem_of_getElem? (i := 485) rfl), rfl⟩
set_option maxRecDepth 20000 in
theorem zq_c27 : zq_cw zq_m27 ∈ zq_WG := List.mem_filter.mpr ⟨List.mem_append_right _ (List.mem_of_getElem? (i := 490) rfl), rfl⟩
set_option maxRecDepth 20000 in
theorem zq_c28 : zq_cw zq_m28 ∈ zq_WG := List.mem_filter.mpr ⟨List.mem_append_right _ (List.mem_of_getElem? (i := 494) rfl), rfl⟩
set_option maxRecDepth 20000 in
theorem zq_c29 : zq_cw zq_m29 ∈ zq_WG := List.mem_filter.mpr ⟨List.mem_append_right _ (List.mem_of_getElem? (i := 497) rfl), rfl⟩
set_option maxRecDepth 20000 in
theorem zq_c30 : zq_cw zq_m30 ∈ zq_WG := List.mem_filter.mpr ⟨List.mem_append_right _ (List.mem_of_getElem? (i := 501) rfl), rfl⟩
set_option maxRecDepth 20000 in
theorem zq_c31 : zq_cw zq_m31 ∈ zq_WG := List.mem_filter.mpr ⟨List.mem_append_right _ (List.mem_of_getElem? (i := 505) rfl), rfl⟩
set_option maxRecDepth 20000 in
theorem zq_c32 : zq_cw zq_m32 ∈ zq_WG := List.mem_filter.mpr ⟨List.mem_append_right _ (List.mem_of_getElem? (i := 509) rfl), rfl⟩
set_option maxRecDepth 20000 in
theorem zq_c33 : zq_cw zq_m33 ∈ zq_WG := List.mem_filter.mpr ⟨List.mem_append_right _ (List.mem_of_getElem? (i := 517) rfl), rfl⟩
set_option maxRecDepth 20000 in
theorem zq_c34 : zq_cw zq_m34 ∈ zq_WG := List.mem_filter.mpr ⟨List.mem_append_right _ (List.mem_of_getElem? (i := 521) rfl), rfl⟩
set_option maxRecDepth 20000 in
theorem zq_c35 : zq_cw zq_m35 ∈ zq_WG := List.mem_filter.mpr ⟨List.mem_append_right _ (List.mem_of_getElem? (i := 524) rfl), rfl⟩
set_option maxRecDepth 20000 in
theorem zq_c36 : zq_cw zq_m36 ∈ zq_WG := List.mem_filter.mpr ⟨List.mem_append_right _ (List.mem_of_getElem? (i := 530) rfl), rfl⟩
set_option maxRecDepth 20000 in
theorem zq_c37 : zq_cw zq_m37 ∈ zq_WG := List.mem_filter.mpr ⟨List.mem_append_right _ (List.mem_of_getElem? (i := 534) rfl), rfl⟩
set_option maxRecDepth 20000 in
theorem zq_c38 : zq_cw zq_m38 ∈ zq_WG := List.mem_filter.mpr ⟨List.mem_append_right _ (List.mem_of_getElem? (i := 538) rfl), rfl⟩
set_option maxRecDepth 20000 in
theorem zq_c39 : zq_cw zq_m39 ∈ zq_WG := List.mem_filter.mpr ⟨List.mem_append_right _ (List.mem_of_getElem? (i := 544) rfl), rfl⟩
set_option maxRecDepth 20000 in
theorem zq_c40 : zq_cw zq_m40 ∈ zq_WG := List.mem_filter.mpr ⟨List.mem_append_right _ (List.mem_of_getElem? (i := 555) rfl), rfl⟩
set_option maxRecDepth 20000 in
theorem zq_c41 : zq_cw zq_m41 ∈ zq_WG := List.mem_filter.mpr ⟨List.mem_append_right _ (List.mem_of_getElem? (i := 559) rfl), rfl⟩
set_option maxRecDepth 20000 in
theorem zq_c42 : zq_cw zq_m42 ∈ zq_WG := List.mem_filter.mpr ⟨List.mem_append_right _ (List.mem_of_getElem? (i := 563) rfl), rfl⟩
set_option maxRecDepth 20000 in
theorem zq_c43 : zq_cw zq_m43 ∈ zq_WG := List.mem_filter.mpr ⟨List.mem_append_right _ (List.mem_of_getElem? (i := 567) rfl), rfl⟩
set_option maxRecDepth 20000 in
theorem zq_c44 : zq_cw zq_m44 ∈ zq_WG := List.mem_filter.mpr ⟨List.mem_append_right _ (List.mem_of_getElem? (i := 571) rfl), rfl⟩
set_option maxRecDepth 20000 in
theorem zq_c45 : zq_cw zq_m45 ∈ zq_WG := List.mem_filter.mpr ⟨List.mem_append_right _ (List.mem_of_getElem? (i := 575) rfl), rfl⟩
set_option maxRecDepth 20000 in
theorem zq_c46 : zq_cw zq_m46 ∈ zq_WG := List.mem_filter.mpr ⟨List.mem_append_right _ (List.mem_of_getElem? (i := 584) rfl), rfl⟩
set_option maxRecDepth 20000 in
theorem zq_c47 : zq_cw zq_m47 ∈ zq_WG := List.mem_filter.mpr ⟨List.mem_append_right _ (List.mem_of_getElem? (i := 594) rfl), rfl⟩
set_option maxRecDepth 20000 in
theorem zq_c48 : zq_cw zq_m48 ∈ zq_WG := List.mem_filter.mpr ⟨List.mem_append_right _ (List.mem_of_getElem? (i := 600) rfl), rfl⟩
set_option maxRecDepth 20000 in
theorem zq_c49 : zq_cw zq_m49 ∈ zq_WG := List.mem_filter.mpr ⟨List.mem_append_right _ (List.mem_of_getElem? (i := 610) rfl), rfl⟩
set_option maxRecDepth 20000 in
theorem zq_c50 : zq_cw zq_m50 ∈ zq_WG := List.mem_filter.mpr ⟨List.mem_append_right _ (List.mem_of_getElem? (i := 614) rfl), rfl⟩
set_option maxRecDepth 20000 in
theorem zq_c51 : zq_cw zq_m51 ∈ zq_WG := List.mem_filter.mpr ⟨List.mem_append_right _ (List.mem_of_getElem? (i := 618) rfl), rfl⟩
set_option maxRecDepth 20000 in
theorem zq_c52 : zq_cw zq_m52 ∈ zq_WG := List.mem_filter.mpr ⟨List.mem_append_right _ (List.mem_of_getElem? (i := 623) rfl), rfl⟩
set_option maxRecDepth 20000 in
theorem zq_c53 : zq_cw zq_m53 ∈ zq_WG := List.mem_filter.mpr ⟨List.mem_append_right _ (List.mem_of_getElem? (i := 628) rfl), rfl⟩
set_option maxRecDepth 20000 in
theorem zq_c54 : zq_cw zq_m54 ∈ zq_WG := List.mem_filter.mpr ⟨List.mem_append_right _ (List.mem_of_getElem? (i := 631) rfl), rfl⟩
set_option maxRecDepth 20000 in
theorem zq_c55 : zq_cw zq_m55 ∈ zq_WG := List.mem_filter.mpr ⟨List.mem_append_right _ (List.mem_of_getElem? (i := 634) rfl), rfl⟩
set_option maxRecDepth 20000 in
theorem zq_c56 : zq_cw zq_m56 ∈ zq_WG := List.mem_filter.mpr ⟨List.mem_append_right _ (List.mem_of_getElem? (i := 644) rfl), rfl⟩
set_option maxRecDepth 20000 in
theorem zq_c57 : zq_cw zq_m57 ∈ zq_WG := List.mem_filter.mpr ⟨List.mem_append_right _ (List.mem_of_getElem? (i := 648) rfl), rfl⟩
set_option maxRecDepth 20000 in
theorem zq_c58 : zq_cw zq_m58 ∈ zq_WG := List.mem_filter.mpr ⟨List.mem_append_right _ (List.mem_of_getElem? (i := 652) rfl), rfl⟩
set_option maxRecDepth 20000 in
theorem zq_c59 : zq_cw zq_m59 ∈ zq_WG := List.mem_filter.mpr ⟨List.mem_append_right _ (List.mem_of_getElem? (i := 656) rfl), rfl⟩
set_option maxRecDepth 20000 in
theorem zq_c60 : zq_cw zq_m60 ∈ zq_WG := List.mem_filter.mpr ⟨List.mem_append_right _ (List.mem_of_getElem? (i := 660) rfl), rfl⟩
set_option maxRecDepth 20000 in
theorem zq_c61 : zq_cw zq_m61 ∈ zq_WG := List.mem_filter.mpr ⟨List.mem_append_right _ (List.mem_of_getElem? (i := 665) rfl), rfl⟩
set_option maxRecDepth 20000 in
theorem zq_c62 : zq_cw zq_m62 ∈ zq_WG := List.mem_filter.mpr ⟨List.mem_append_right _ (List.mem_of_getElem? (i := 673) rfl), rfl⟩
set_option maxRecDepth 20000 in
theorem zq_c63 : zq_cw zq_m63 ∈ zq_WG := List.mem_filter.mpr ⟨List.mem_append_right _ (List.mem_of_getElem? (i := 677) rfl), rfl⟩
set_option maxRecDepth 20000 in
theorem zq_c64 : zq_cw zq_m64 ∈ zq_WG := List.mem_filter.mpr ⟨List.mem_append_right _ (List.mem_of_getElem? (i := 680) rfl), rfl⟩
set_option maxRecDepth 20000 in
theorem zq_c65 : zq_cw zq_m65 ∈ zq_WG := List.mem_filter.mpr ⟨List.mem_append_right _ (List.mem_of_getElem? (i := 690) rfl), rfl⟩
set_option maxRecDepth 20000 in
theorem zq_c66 : zq_cw zq_m66 ∈ zq_WG := List.mem_filter.mpr ⟨List.mem_append_right _ (List.mem_of_getElem? (i := 694) rfl), rfl⟩
set_option maxRecDepth 20000 in
theorem zq_c67 : zq_cw zq_m67 ∈ zq_WG := List.mem_filter.mpr ⟨List.mem_append_right _ (List.mem_of_getElem? (i := 699) rfl), rfl⟩
set_option maxRecDepth 20000 in
theorem zq_c68 : zq_cw zq_m68 ∈ zq_WG := List.mem_filter.mpr ⟨List.mem_append_right _ (List.mem_of_getElem? (i := 703) rfl), rfl⟩
set_option maxRecDepth 20000 in
theorem zq_c69 : zq_cw zq_m69 ∈ zq_WG := List.mem_filter.mpr ⟨List.mem_append_right _ (List.mem_of_getElem? (i := 707) rfl), rfl⟩
set_option maxRecDepth 20000 in
theorem zq_c70 : zq_cw zq_m70 ∈ zq_WG := List.mem_filter.mpr ⟨List.mem_append_right _ (List.mem_of_getElem? (i := 712) rfl), rfl⟩
set_option maxRecDepth 20000 in
theorem zq_c71 : zq_cw zq_m71 ∈ zq_WG := List.mem_filter.mpr ⟨List.mem_append_right _ (List.mem_of_getElem? (i := 717) rfl), rfl⟩
set_option maxRecDepth 20000 in
theorem zq_c72 : zq_cw zq_m72 ∈ zq_WG := List.mem_filter.mpr ⟨List.mem_append_right _ (List.mem_of_getElem? (i := 721) rfl), rfl⟩
set_option maxRecDepth 20000 in
theorem zq_c73 : zq_cw zq_m73 ∈ zq_WG := List.mem_filter.mpr ⟨List.mem_append_right _ (List.mem_of_getElem? (i := 726) rfl), rfl⟩
set_option maxRecDepth 20000 in
theorem zq_c74 : zq_cw zq_m74 ∈ zq_WG := List.mem_filter.mpr ⟨List.mem_append_right _ (List.mem_of_getElem? (i := 730) rfl), rfl⟩
set_option maxRecDepth 20000 in
theorem zq_c75 : zq_cw zq_m75 ∈ zq_WG := List.mem_filter.mpr ⟨List.mem_append_right _ (List.mem_of_getElem? (i := 735) rfl), rfl⟩
set_option maxRecDepth 20000 in
theorem zq_c76 : zq_cw zq_m76 ∈ zq_WG := List.mem_filter.mpr ⟨List.mem_append_right _ (List.mem_of_getElem? (i := 740) rfl), rfl⟩
set_option maxRecDepth 20000 in
theorem zq_c77 : zq_cw zq_m77 ∈ zq_WG := List.mem_filter.mpr ⟨List.mem_append_right _ (List.mem_of_getElem? (i := 745) rfl), rfl⟩
set_option maxRecDepth 20000 in
theorem zq_c78 : zq_cw zq_m78 ∈ zq_WG := List.mem_filter.mpr ⟨List.mem_append_right _ (List.mem_of_getElem? (i := 749) rfl), rfl⟩
set_option maxRecDepth 20000 in
theorem zq_c79 : zq_cw zq_m79 ∈ zq_WG := List.mem_filter.mpr ⟨List.mem_append_right _ (List.mem_of_getElem? (i := 753) rfl), rfl⟩
set_option maxRecDepth 20000 in
theorem zq_c80 : zq_cw zq_m80 ∈ zq_WG := List.mem_filter.mpr ⟨List.mem_append_right _ (List.mem_of_getElem? (i := 757) rfl), rfl⟩
set_option maxRecDepth 20000 in
theorem zq_c81 : zq_cw zq_m81 ∈ zq_WG := List.mem_filter.mpr ⟨List.mem_append_right _ (List.mem_of_getElem? (i := 762) rfl), rfl⟩
set_option maxRecDepth 20000 in
theorem zq_c82 : zq_cw zq_m82 ∈ zq_WG := List.mem_filter.mpr ⟨List.mem_append_right _ (List.mem_of_getElem? (i := 771) rfl), rfl⟩
set_option maxRecDepth 20000 in
theorem zq_c83 : zq_cw zq_m83 ∈ zq_WG := List.mem_filter.mpr ⟨List.mem_append_right _ (List.mem_of_getElem? (i := 775) rfl), rfl⟩
set_option maxRecDepth 20000 in
theorem zq_c84 : zq_cw zq_m84 ∈ zq_WG := List.mem_filter.mpr ⟨List.mem_append_right _ (List.mem_of_getElem? (i := 782) rfl), rfl⟩
set_option maxRecDepth 20000 in
theorem zq_c85 : zq_cw zq_m85 ∈ zq_WG := List.mem_filter.mpr ⟨List.mem_append_right _ (List.mem_of_getElem? (i := 786) rfl), rfl⟩
set_option maxRecDepth 20000 in
theorem zq_c86 : zq_cw zq_m86 ∈ zq_WG := List.mem_filter.mpr ⟨List.mem_append_right _ (List.mem_of_getElem? (i := 790) rfl), rfl⟩
set_option maxRecDepth 20000 in
theorem zq_c87 : zq_cw zq_m87 ∈ zq_WG := List.mem_filter.mpr ⟨List.mem_append_right _ (List.mem_of_getElem? (i := 794) rfl), rfl⟩
set_option maxRecDepth 20000 in
theorem zq_c88 : zq_cw zq_m88 ∈ zq_WG := List.mem_filter.mpr ⟨List.mem_append_right _ (List.mem_of_getElem? (i := 798) rfl), rfl⟩
set_option maxRecDepth 20000 in
theorem zq_c89 : zq_cw zq_m89 ∈ zq_WG := List.mem_filter.mpr ⟨List.mem_append_right _ (List.mem_of_getElem? (i := 802) rfl), rfl⟩
set_option maxRecDepth 20000 in
theorem zq_c90 : zq_cw zq_m90 ∈ zq_WG := List.mem_filter.mpr ⟨List.mem_append_right _ (List.mem_of_getElem? (i := 807) rfl), rfl⟩
set_option maxRecDepth 20000 in
theorem zq_c91 : zq_cw zq_m91 ∈ zq_WG := List.mem_filter.mpr ⟨List.mem_append_right _ (List.mem_of_getElem? (i := 810) rfl), rfl⟩
set_option maxRecDepth 20000 in
theorem zq_c92 : zq_cw zq_m92 ∈ zq_WG := List.mem_filter.mpr ⟨List.mem_append_right _ (List.mem_of_getElem? (i := 815) rfl), rfl⟩
set_option maxRecDepth 20000 in
theorem zq_c93 : zq_cw zq_m93 ∈ zq_WG := List.mem_filter.mpr ⟨List.mem_append_right _ (List.mem_of_getElem? (i := 819) rfl), rfl⟩
set_option maxRecDepth 20000 in
theorem zq_c94 : zq_cw zq_m94 ∈ zq_WG := List.mem_filter.mpr ⟨List.mem_append_right _ (List.mem_of_getElem? (i := 823) rfl), rfl⟩
set_option maxRecDepth 20000 in
theorem zq_c95 : zq_cw zq_m95 ∈ zq_WG := List.mem_filter.mpr ⟨List.mem_append_right _ (List.mem_of_getElem? (i := 827) rfl), rfl⟩
set_option maxRecDepth 20000 in
theorem zq_c96 : zq_cw zq_m96 ∈ zq_WG := List.mem_filter.mpr ⟨List.mem_append_right _ (List.mem_of_getElem? (i := 831) rfl), rfl⟩
set_option maxRecDepth 20000 in
theorem zq_c97 : zq_cw zq_m97 ∈ zq_WG := List.mem_filter.mpr ⟨List.mem_append_right _ (List.mem_of_getElem? (i := 842) rfl), rfl⟩
set_option maxRecDepth 20000 in
theorem zq_c98 : zq_cw zq_m98 ∈ zq_WG := List.mem_filter.mpr ⟨List.mem_append_right _ (List.mem_of_getElem? (i := 846) rfl), rfl⟩
set_option maxRecDepth 20000 in
theorem zq_c99 : zq_cw zq_m99 ∈ zq_WG := List.mem_filter.mpr ⟨List.mem_append_right _ (List.mem_of_getElem? (i := 850) rfl), rfl⟩
set_option maxRecDepth 20000 in
theorem zq_c100 : zq_cw zq_m100 ∈ zq_WG := List.mem_filter.mpr ⟨List.mem_append_right _ (List.mem_of_getElem? (i := 855) rfl), rfl⟩
set_option maxRecDepth 20000 in
theorem zq_c101 : zq_cw zq_m101 ∈ zq_WG := List.mem_filter.mpr ⟨List.mem_append_right _ (List.mem_of_getElem? (i := 859) rfl), rfl⟩
set_option maxRecDepth 20000 in
theorem zq_c102 : zq_cw zq_m102 ∈ zq_WG := List.mem_filter.mpr ⟨List.mem_append_right _ (List.mem_of_getElem? (i := 866) rfl), rfl⟩
set_option maxRecDepth 20000 in
theorem zq_c103 : zq_cw zq_m103 ∈ zq_WG := List.mem_filter.mpr ⟨List.mem_append_right _ (List.mem_of_getElem? (i := 870) rfl), rfl⟩
set_option maxRecDepth 20000 in
theorem zq_c104 : zq_cw zq_m104 ∈ zq_WG := List.mem_filter.mpr ⟨List.mem_append_right _ (List.mem_of_getElem? (i := 875) rfl), rfl⟩
set_option maxRecDepth 20000 in
theorem zq_c105 : zq_cw zq_m105 ∈ zq_WG := List.mem_filter.mpr ⟨List.mem_append_right _ (List.mem_of_getElem? (i := 879) rfl), rfl⟩
set_option maxRecDepth 20000 in
theorem zq_c106 : zq_cw zq_m106 ∈ zq_WG := List.mem_filter.mpr ⟨List.mem_append_right _ (List.mem_of_getElem? (i := 883) rfl), rfl⟩
set_option maxRecDepth 20000 in
theorem zq_c107 : zq_cw zq_m107 ∈ zq_WG := List.mem_filter.mpr ⟨List.mem_append_right _ (List.mem_of_getElem? (i := 886) rfl), rfl⟩
set_option maxRecDepth 20000 in
theorem zq_c108 : zq_cw zq_m108 ∈ zq_WG := List.mem_filter.mpr ⟨List.mem_append_right _ (List.mem_of_getElem? (i := 891) rfl), rfl⟩
set_option maxRecDepth 20000 in
theorem zq_c109 : zq_cw zq_m109 ∈ zq_WG := List.mem_filter.mpr ⟨List.mem_append_right _ (List.mem_of_getElem? (i := 895) rfl), rfl⟩
set_option maxRecDepth 20000 in
theorem zq_c110 : zq_cw zq_m110 ∈ zq_WG := List.mem_filter.mpr ⟨List.mem_append_right _ (List.mem_of_getElem? (i := 898) rfl), rfl⟩
set_option maxRecDepth 20000 in
theorem zq_c111 : zq_cw zq_m111 ∈ zq_WG := List.mem_filter.mpr ⟨List.mem_append_right _ (List.mem_of_getElem? (i := 903) rfl), rfl⟩
set_option maxRecDepth 20000 in
theorem zq_c112 : zq_cw zq_m112 ∈ zq_WG := List.mem_filter.mpr ⟨List.mem_append_right _ (List.mem_of_getElem? (i := 907) rfl), rfl⟩
set_option maxRecDepth 20000 in
theorem zq_c113 : zq_cw zq_m113 ∈ zq_WG := List.mem_filter.mpr ⟨List.mem_append_right _ (List.mem_of_getElem? (i := 913) rfl), rfl⟩
set_option maxRecDepth 20000 in
theorem zq_c114 : zq_cw zq_m114 ∈ zq_WG := List.mem_filter.mpr ⟨List.mem_append_right _ (List.mem_of_getElem? (i := 916) rfl), rfl⟩
set_option maxRecDepth 20000 in
theorem zq_c115 : zq_cw zq_m115 ∈ zq_WG := List.mem_filter.mpr ⟨List.mem_append_right _ (List.mem_of_getElem? (i := 921) rfl), rfl⟩
set_option maxRecDepth 20000 in
theorem zq_c116 : zq_cw zq_m116 ∈ zq_WG := List.mem_filter.mpr ⟨List.mem_append_right _ (List.mem_of_getElem? (i := 925) rfl), rfl⟩
set_option maxRecDepth 20000 in
theorem zq_c117 : zq_cw zq_m117 ∈ zq_WG := List.mem_filter.mpr ⟨List.mem_append_right _ (List.mem_of_getElem? (i := 929) rfl), rfl⟩
set_option maxRecDepth 20000 in
theorem zq_c118 : zq_cw zq_m118 ∈ zq_WG := List.mem_filter.mpr ⟨List.mem_append_right _ (List.mem_of_getElem? (i := 933) rfl), rfl⟩
set_option maxRecDepth 20000 in
theorem zq_c119 : zq_cw zq_m119 ∈ zq_WG := List.mem_filter.mpr ⟨List.mem_append_right _ (List.mem_of_getElem? (i := 937) rfl), rfl⟩
set_option maxRecDepth 20000 in
theorem zq_c120 : zq_cw zq_m120 ∈ zq_WG := List.mem_filter.mpr ⟨List.mem_append_right _ (List.mem_of_getElem? (i := 940) rfl), rfl⟩
set_option maxRecDepth 20000 in
theorem zq_c121 : zq_cw zq_m121 ∈ zq_WG := List.mem_filter.mpr ⟨List.mem_append_right _ (List.mem_of_getElem? (i := 949) rfl), rfl⟩
set_option maxRecDepth 20000 in
theorem zq_c122 : zq_cw zq_m122 ∈ zq_WG := List.mem_filter.mpr ⟨List.mem_append_right _ (List.mem_of_getElem? (i := 953) rfl), rfl⟩
set_option maxRecDepth 20000 in
theorem zq_c123 : zq_cw zq_m123 ∈ zq_WG := List.mem_filter.mpr ⟨List.mem_append_right _ (List.mem_of_getElem? (i := 957) rfl), rfl⟩
set_option maxRecDepth 20000 in
theorem zq_c124 : zq_cw zq_m124 ∈ zq_WG := List.mem_filter.mpr ⟨List.mem_append_right _ (List.mem_of_getElem? (i := 962) rfl), rfl⟩
set_option maxRecDepth 20000 in
theorem zq_c125 : zq_cw zq_m125 ∈ zq_WG := List.mem_filter.mpr ⟨List.mem_append_right _ (List.mem_of_getElem? (i := 967) rfl), rfl⟩
set_option maxRecDepth 20000 in
theorem zq_c126 : zq_cw zq_m126 ∈ zq_WG := List.mem_filter.mpr ⟨List.mem_append_right _ (List.mem_of_getElem? (i := 971) rfl), rfl⟩
set_option maxRecDepth 20000 in
theorem zq_c127 : zq_cw zq_m127 ∈ zq_WG := List.mem_filter.mpr ⟨List.mem_append_right _ (List.mem_of_getElem? (i := 975) rfl), rfl⟩
set_option maxRecDepth 20000 in
theorem zq_c128 : zq_cw zq_m128 ∈ zq_WG := List.mem_filter.mpr ⟨List.mem_append_right _ (List.mem_of_getElem? (i := 980) rfl), rfl⟩
set_option maxRecDepth 20000 in
theorem zq_c129 : zq_cw zq_m129 ∈ zq_WG := List.mem_filter.mpr ⟨List.mem_append_right _ (List.mem_of_getElem? (i := 984) rfl), rfl⟩
set_option maxRecDepth 20000 in
theorem zq_c130 : zq_cw zq_m130 ∈ zq_WG := List.mem_filter.mpr ⟨List.mem_append_right _ (List.mem_of_getElem? (i := 989) rfl), rfl⟩
set_option maxRecDepth 20000 in
theorem zq_c131 : zq_cw zq_m131 ∈ zq_WG := List.mem_filter.mpr ⟨List.mem_append_right _ (List.mem_of_getElem? (i := 994) rfl), rfl⟩
set_option maxRecDepth 20000 in
theorem zq_c132 : zq_cw zq_m132 ∈ zq_WG := List.mem_filter.mpr ⟨List.mem_append_right _ (List.mem_of_getElem? (i := 998) rfl), rfl⟩
set_option maxRecDepth 20000 in
theorem zq_c133 : zq_cw zq_m133 ∈ zq_WG := List.mem_filter.mpr ⟨List.mem_append_right _ (List.mem_of_getElem? (i := 1002) rfl), rfl⟩
set_option maxRecDepth 20000 in
theorem zq_c134 : zq_cw zq_m134 ∈ zq_WG := List.mem_filter.mpr ⟨List.mem_append_right _ (List.mem_of_getElem? (i := 1008) rfl), rfl⟩
set_option maxRecDepth 20000 in
theorem zq_c135 : zq_cw zq_m135 ∈ zq_WG := List.mem_filter.mpr ⟨List.mem_append_right _ (List.mem_of_getElem? (i := 1012) rfl), rfl⟩
set_option maxRecDepth 20000 in
theorem zq_c136 : zq_cw zq_m136 ∈ zq_WG := List.mem_filter.mpr ⟨List.mem_append_right _ (List.mem_of_getElem? (i := 1016) rfl), rfl⟩
set_option maxRecDepth 20000 in
theorem zq_c137 : zq_cw zq_m137 ∈ zq_WG := List.mem_filter.mpr ⟨List.mem_append_right _ (List.mem_of_getElem? (i := 1020) rfl), rfl⟩
set_option maxRecDepth 20000 in
theorem zq_c138 : zq_cw zq_m138 ∈ zq_WG := List.mem_filter.mpr ⟨List.mem_append_right _ (List.mem_of_getElem? (i := 1025) rfl), rfl⟩
set_option maxRecDepth 20000 in
theorem zq_c139 : zq_cw zq_m139 ∈ zq_WG := List.mem_filter.mpr ⟨List.mem_append_right _ (List.mem_of_getElem? (i := 1029) rfl), rfl⟩
set_option maxRecDepth 20000 in
theorem zq_c140 : zq_cw zq_m140 ∈ zq_WG := List.mem_filter.mpr ⟨List.mem_append_right _ (List.mem_of_getElem? (i := 1034) rfl), rfl⟩
set_option maxRecDepth 20000 in
theorem zq_c141 : zq_cw zq_m141 ∈ zq_WG := List.mem_filter.mpr ⟨List.mem_append_right _ (List.mem_of_getElem? (i := 1038) rfl), rfl⟩
set_option maxRecDepth 20000 in
theorem zq_c142 : zq_cw zq_m142 ∈ zq_WG := List.mem_filter.mpr ⟨List.mem_append_right _ (List.mem_of_getElem? (i := 1046) rfl), rfl⟩
set_option maxRecDepth 20000 in
theorem zq_c143 : zq_cw zq_m143 ∈ zq_WG := List.mem_filter.mpr ⟨List.mem_append_right _ (List.mem_of_getElem? (i := 1110) rfl), rfl⟩
set_option maxRecDepth 20000 in
theorem zq_c144 : zq_cw zq_m144 ∈ zq_WG := List.mem_filter.mpr ⟨List.mem_append_right _ (List.mem_of_getElem? (i := 1114) rfl), rfl⟩
set_option maxRecDepth 20000 in
theorem zq_c145 : zq_cw zq_m145 ∈ zq_WG := List.mem_filter.mpr ⟨List.mem_append_right _ (List.mem_of_getElem? (i := 1118) rfl), rfl⟩
set_option maxRecDepth 20000 in
theorem zq_c146 : zq_cw zq_m146 ∈ zq_WG := List.mem_filter.mpr ⟨List.mem_append_right _ (List.mem_of_getElem? (i := 1123) rfl), rfl⟩
set_option maxRecDepth 20000 in
theorem zq_c147 : zq_cw zq_m147 ∈ zq_WG := List.mem_filter.mpr ⟨List.mem_append_right _ (List.mem_of_getElem? (i := 1127) rfl), rfl⟩
set_option maxRecDepth 20000 in
theorem zq_c148 : zq_cw zq_m148 ∈ zq_WG := List.mem_filter.mpr ⟨List.mem_append_right _ (List.mem_of_getElem? (i := 1168) rfl), rfl⟩
set_option maxRecDepth 20000 in
theorem zq_c149 : zq_cw zq_m149 ∈ zq_WG := List.mem_filter.mpr ⟨List.mem_append_right _ (List.mem_of_getElem? (i := 1172) rfl), rfl⟩
set_option maxRecDepth 20000 in
theorem zq_c150 : zq_cw zq_m150 ∈ zq_WG := List.mem_filter.mpr ⟨List.mem_append_right _ (List.mem_of_getElem? (i := 1176) rfl), rfl⟩
set_option maxRecDepth 20000 in
theorem zq_c151 : zq_cw zq_m151 ∈ zq_WG := List.mem_filter.mpr ⟨List.mem_append_right _ (List.mem_of_getElem? (i := 1180) rfl), rfl⟩
set_option maxRecDepth 20000 in
theorem zq_c152 : zq_cw zq_m152 ∈ zq_WG := List.mem_filter.mpr ⟨List.mem_append_right _ (List.mem_of_getElem? (i := 1184) rfl), rfl⟩
set_option maxRecDepth 20000 in
theorem zq_c153 : zq_cw zq_m153 ∈ zq_WG := List.mem_filter.mpr ⟨List.mem_append_right _ (List.mem_of_getElem? (i := 1188) rfl), rfl⟩
set_option maxRecDepth 20000 in
theorem zq_c154 : zq_cw zq_m154 ∈ zq_WG := List.mem_filter.mpr ⟨List.mem_append_right _ (List.mem_of_getElem? (i := 1326) rfl), rfl⟩
set_option maxRecDepth 20000 in
theorem zq_c155 : zq_cw zq_m155 ∈ zq_WG := List.mem_filter.mpr ⟨List.mem_append_right _ (List.mem_of_getElem? (i := 1330) rfl), rfl⟩
set_option maxRecDepth 20000 in
theorem zq_c156 : zq_cw zq_m156 ∈ zq_WG := List.mem_filter.mpr ⟨List.mem_append_right _ (List.mem_of_getElem? (i := 1333) rfl), rfl⟩
set_option maxRecDepth 20000 in
theorem zq_c157 : zq_cw zq_m157 ∈ zq_WG := List.mem_filter.mpr ⟨List.mem_append_right _ (List.mem_of_getElem? (i := 1337) rfl), rfl⟩
set_option maxRecDepth 20000 in
theorem zq_c158 : zq_cw zq_m158 ∈ zq_WG := List.mem_filter.mpr ⟨List.mem_append_right _ (List.mem_of_getElem? (i := 1340) rfl), rfl⟩
set_option maxRecDepth 20000 in
theorem zq_c159 : zq_cw zq_m159 ∈ zq_WG := List.mem_filter.mpr ⟨List.mem_append_right _ (List.mem_of_getElem? (i := 1345) rfl), rfl⟩
set_option maxRecDepth 20000 in
theorem zq_c160 : zq_cw zq_m160 ∈ zq_WG := List.mem_filter.mpr ⟨List.mem_append_right _ (List.mem_of_getElem? (i := 1349) rfl), rfl⟩
set_option maxRecDepth 20000 in
theorem zq_c161 : zq_cw zq_m161 ∈ zq_WG := List.mem_filter.mpr ⟨List.mem_append_right _ (List.mem_of_getElem? (i := 1353) rfl), rfl⟩
set_option maxRecDepth 20000 in
theorem zq_c162 : zq_cw zq_m162 ∈ zq_WG := List.mem_filter.mpr ⟨List.mem_append_right _ (List.mem_of_getElem? (i := 1357) rfl), rfl⟩
set_option maxRecDepth 20000 in
theorem zq_c163 : zq_cw zq_m163 ∈ zq_WG := List.mem_filter.mpr ⟨List.mem_append_right _ (List.mem_of_getElem? (i := 1361) rfl), rfl⟩
set_option maxRecDepth 20000 in
theorem zq_c164 : zq_cw zq_m164 ∈ zq_WG := List.mem_filter.mpr ⟨List.mem_append_right _ (List.mem_of_getElem? (i := 1365) rfl), rfl⟩
set_option maxRecDepth 20000 in
theorem zq_c165 : zq_cw zq_m165 ∈ zq_WG := List.mem_filter.mpr ⟨List.mem_append_right _ (List.mem_of_getElem? (i := 1369) rfl), rfl⟩
set_option maxRecDepth 20000 in
theorem zq_c166 : zq_cw zq_m166 ∈ zq_WG := List.mem_filter.mpr ⟨List.mem_append_right _ (List.mem_of_getElem? (i := 1373) rfl), rfl⟩
set_option maxRecDepth 20000 in
theorem zq_c167 : zq_cw zq_m167 ∈ zq_WG := List.mem_filter.mpr ⟨List.mem_append_right _ (List.mem_of_getElem? (i := 1377) rfl), rfl⟩
set_option maxRecDepth 20000 in
theorem zq_c168 : zq_cw zq_m168 ∈ zq_WG := List.mem_filter.mpr ⟨List.mem_append_right _ (List.mem_of_getElem? (i := 1381) rfl), rfl⟩
set_option maxRecDepth 20000 in
theorem zq_c169 : zq_cw zq_m169 ∈ zq_WG := List.mem_filter.mpr ⟨List.mem_append_right _ (List.mem_of_getElem? (i := 1385) rfl), rfl⟩
set_option maxRecDepth 20000 in
theorem zq_c170 : zq_cw zq_m170 ∈ zq_WG := List.mem_filter.mpr ⟨List.mem_append_right _ (List.mem_of_getElem? (i := 1389) rfl), rfl⟩
set_option maxRecDepth 20000 in
theorem zq_c171 : zq_cw zq_m171 ∈ zq_WG := List.mem_filter.mpr ⟨List.mem_append_right _ (List.mem_of_getElem? (i := 1393) rfl), rfl⟩
set_option maxRecDepth 20000 in
theorem zq_c172 : zq_cw zq_m172 ∈ zq_WG := List.mem_filter.mpr ⟨List.mem_append_right _ (List.mem_of_getElem? (i := 1397) rfl), rfl⟩
set_option maxRecDepth 20000 in
theorem zq_c173 : zq_cw zq_m173 ∈ zq_WG := List.mem_filter.mpr ⟨List.mem_append_right _ (List.mem_of_getElem? (i := 1400) rfl), rfl⟩
set_option maxRecDepth 20000 in
theorem zq_c174 : zq_cw zq_m174 ∈ zq_WG := List.mem_filter.mpr ⟨List.mem_append_right _ (List.mem_of_getElem? (i := 1404) rfl), rfl⟩
set_option maxRecDepth 20000 in
theorem zq_c175 : zq_cw zq_m175 ∈ zq_WG := List.mem_filter.mpr ⟨List.mem_append_right _ (List.mem_of_getElem? (i := 1408) rfl), rfl⟩
set_option maxRecDepth 20000 in
theorem zq_c176 : zq_cw zq_m176 ∈ zq_WG := List.mem_filter.mpr ⟨List.mem_append_right _ (List.mem_of_getElem? (i := 1412) rfl), rfl⟩
set_option maxRecDepth 20000 in
theorem zq_c177 : zq_cw zq_m177 ∈ zq_WG := List.mem_filter.mpr ⟨List.mem_append_right _ (List.mem_of_getElem? (i := 1416) rfl), rfl⟩
set_option maxRecDepth 20000 in
theorem zq_c178 : zq_cw zq_m178 ∈ zq_WG := List.mem_filter.mpr ⟨List.mem_append_right _ (List.mem_of_getElem? (i := 1420) rfl), rfl⟩
set_option maxRecDepth 20000 in
theorem zq_c179 : zq_cw zq_m179 ∈ zq_WG := List.mem_filter.mpr ⟨List.mem_append_right _ (List.mem_of_getElem? (i := 1424) rfl), rfl⟩
set_option maxRecDepth 20000 in
theorem zq_c180 : zq_cw zq_m180 ∈ zq_WG := List.mem_filter.mpr ⟨List.mem_append_right _ (List.mem_of_getElem? (i := 1428) rfl), rfl⟩
set_option maxRecDepth 20000 in
theorem zq_c181 : zq_cw zq_m181 ∈ zq_WG := List.mem_filter.mpr ⟨List.mem_append_right _ (List.mem_of_getElem? (i := 1432) rfl), rfl⟩
set_option maxRecDepth 20000 in
theorem zq_c182 : zq_cw zq_m182 ∈ zq_WG := List.mem_filter.mpr ⟨List.mem_append_right _ (List.mem_of_getElem? (i := 1436) rfl), rfl⟩
set_option maxRecDepth 20000 in
theorem zq_c183 : zq_cw zq_m183 ∈ zq_WG := List.mem_filter.mpr ⟨List.mem_append_right _ (List.mem_of_getElem? (i := 1440) rfl), rfl⟩
set_option maxRecDepth 20000 in
theorem zq_c184 : zq_cw zq_m184 ∈ zq_WG := List.mem_filter.mpr ⟨List.mem_append_right _ (List.mem_of_getElem? (i := 1444) rfl), rfl⟩
set_option maxRecDepth 20000 in
theorem zq_c185 : zq_cw zq_m185 ∈ zq_WG := List.mem_filter.mpr ⟨List.mem_append_right _ (List.mem_of_getElem? (i := 1448) rfl), rfl⟩
set_option maxRecDepth 20000 in
theorem zq_c186 : zq_cw zq_m186 ∈ zq_WG := List.mem_filter.mpr ⟨List.mem_append_right _ (List.mem_of_getElem? (i := 1452) rfl), rfl⟩
set_option maxRecDepth 20000 in
theorem zq_c187 : zq_cw zq_m187 ∈ zq_WG := List.mem_filter.mpr ⟨List.mem_append_right _ (List.mem_of_getElem? (i := 1456) rfl), rfl⟩
set_option maxRecDepth 20000 in
theorem zq_c188 : zq_cw zq_m188 ∈ zq_WG := List.mem_filter.mpr ⟨List.mem_append_right _ (List.mem_of_getElem? (i := 1460) rfl), rfl⟩
set_option maxRecDepth 20000 in
theorem zq_c189 : zq_cw zq_m189 ∈ zq_WG := List.mem_filter.mpr ⟨List.mem_append_right _ (List.mem_of_getElem? (i := 1464) rfl), rfl⟩
set_option maxRecDepth 20000 in
theorem zq_c190 : zq_cw zq_m190 ∈ zq_WG := List.mem_filter.mpr ⟨List.mem_append_right _ (List.mem_of_getElem? (i := 1468) rfl), rfl⟩
set_option maxRecDepth 20000 in
theorem zq_c191 : zq_cw zq_m191 ∈ zq_WG := List.mem_filter.mpr ⟨List.mem_append_right _ (List.mem_of_getElem? (i := 1472) rfl), rfl⟩
set_option maxRecDepth 20000 in
theorem zq_c192 : zq_cw zq_m192 ∈ zq_WG := List.mem_filter.mpr ⟨List.mem_append_right _ (List.mem_of_getElem? (i := 1476) rfl), rfl⟩
set_option maxRecDepth 20000 in
theorem zq_c193 : zq_cw zq_m193 ∈ zq_WG := List.mem_filter.mpr ⟨List.mem_append_right _ (List.mem_of_getElem? (i := 1480) rfl), rfl⟩
set_option maxRecDepth 20000 in
theorem zq_c194 : zq_cw zq_m194 ∈ zq_WG := List.mem_filter.mpr ⟨List.mem_append_right _ (List.mem_of_getElem? (i := 1484) rfl), rfl⟩
set_option maxRecDepth 20000 in
theorem zq_c195 : zq_cw zq_m195 ∈ zq_WG := List.mem_filter.mpr ⟨List.mem_append_right _ (List.mem_of_getElem? (i := 1487) rfl), rfl⟩
set_option maxRecDepth 20000 in
theorem zq_c196 : zq_cw zq_m196 ∈ zq_WG := List.mem_filter.mpr ⟨List.mem_append_right _ (List.mem_of_getElem? (i := 1491) rfl), rfl⟩
set_option maxRecDepth 20000 in
theorem zq_c197 : zq_cw zq_m197 ∈ zq_WG := List.mem_filter.mpr ⟨List.mem_append_right _ (List.mem_of_getElem? (i := 1495) rfl), rfl⟩
set_option maxRecDepth 20000 in
theorem zq_c198 : zq_cw zq_m198 ∈ zq_WG := List.mem_filter.mpr ⟨List.mem_append_right _ (List.mem_of_getElem? (i := 1499) rfl), rfl⟩
set_option maxRecDepth 20000 in
theorem zq_c199 : zq_cw zq_m199 ∈ zq_WG := List.mem_filter.mpr ⟨List.mem_append_right _ (List.mem_of_getElem? (i := 1503) rfl), rfl⟩
set_option maxRecDepth 20000 in
theorem zq_c200 : zq_cw zq_m200 ∈ zq_WG := List.mem_filter.mpr ⟨List.mem_append_right _ (List.mem_of_getElem? (i := 1507) rfl), rfl⟩
set_option maxRecDepth 20000 in
theorem zq_c201 : zq_cw zq_m201 ∈ zq_WG := List.mem_filter.mpr ⟨List.mem_append_right _ (List.mem_of_getElem? (i := 1511) rfl), rfl⟩
set_option maxRecDepth 20000 in
theorem zq_c202 : zq_cw zq_m202 ∈ zq_WG := List.mem_filter.mpr ⟨List.mem_append_right _ (List.mem_of_getElem? (i := 1515) rfl), rfl⟩
set_option maxRecDepth 20000 in
theorem zq_c203 : zq_cw zq_m203 ∈ zq_WG := List.mem_filter.mpr ⟨List.mem_append_right _ (List.mem_of_getElem? (i := 1519) rfl), rfl⟩
set_option maxRecDepth 20000 in
theorem zq_c204 : zq_cw zq_m204 ∈ zq_WG := List.mem_filter.mpr ⟨List.mem_append_right _ (List.mem_of_getElem? (i := 1523) rfl), rfl⟩
set_option maxRecDepth 20000 in
theorem zq_c205 : zq_cw zq_m205 ∈ zq_WG := List.mem_filter.mpr ⟨List.mem_append_right _ (List.mem_of_getElem? (i := 1527) rfl), rfl⟩
set_option maxRecDepth 20000 in
theorem zq_c206 : zq_cw zq_m206 ∈ zq_WG := List.mem_filter.mpr ⟨List.mem_append_right _ (List.mem_of_getElem? (i := 1531) rfl), rfl⟩
set_option maxRecDepth 20000 in
theorem zq_c207 : zq_cw zq_m207 ∈ zq_WG := List.mem_filter.mpr ⟨List.mem_append_right _ (List.mem_of_getElem? (i := 1535) rfl), rfl⟩
set_option maxRecDepth 20000 in
theorem zq_c208 : zq_cw zq_m208 ∈ zq_WG := List.mem_filter.mpr ⟨List.mem_append_right _ (List.mem_of_getElem? (i := 1539) rfl), rfl⟩
set_option maxRecDepth 20000 in
theorem zq_c209 : zq_cw zq_m209 ∈ zq_WG := List.mem_filter.mpr ⟨List.mem_append_right _ (List.mem_of_getElem? (i := 1547) rfl), rfl⟩
set_option maxRecDepth 20000 in
theorem zq_c210 : zq_cw zq_m210 ∈ zq_WG := List.mem_filter.mpr ⟨List.mem_append_right _ (List.mem_of_getElem? (i := 1551) rfl), rfl⟩
set_option maxRecDepth 20000 in
theorem zq_c211 : zq_cw zq_m211 ∈ zq_WG := List.mem_filter.mpr ⟨List.mem_append_right _ (List.mem_of_getElem? (i := 1555) rfl), rfl⟩
set_option maxRecDepth 20000 in
theorem zq_c212 : zq_cw zq_m212 ∈ zq_WG := List.mem_filter.mpr ⟨List.mem_append_right _ (List.mem_of_getElem? (i := 1559) rfl), rfl⟩
set_option maxRecDepth 20000 in
theorem zq_c213 : zq_cw zq_m213 ∈ zq_WG := List.mem_filter.mpr ⟨List.mem_append_right _ (List.mem_of_getElem? (i := 1563) rfl), rfl⟩
set_option maxRecDepth 20000 in
theorem zq_c214 : zq_cw zq_m214 ∈ zq_WG := List.mem_filter.mpr ⟨List.mem_append_right _ (List.mem_of_getElem? (i := 1567) rfl), rfl⟩
set_option maxRecDepth 20000 in
theorem zq_c215 : zq_cw zq_m215 ∈ zq_WG := List.mem_filter.mpr ⟨List.mem_append_right _ (List.mem_of_getElem? (i := 1571) rfl), rfl⟩
set_option maxRecDepth 20000 in
theorem zq_c216 : zq_cw zq_m216 ∈ zq_WG := List.mem_filter.mpr ⟨List.mem_append_right _ (List.mem_of_getElem? (i := 1575) rfl), rfl⟩
set_option maxRecDepth 20000 in
theorem zq_c217 : zq_cw zq_m217 ∈ zq_WG := List.mem_filter.mpr ⟨List.mem_append_right _ (List.mem_of_getElem? (i := 1579) rfl), rfl⟩
set_option maxRecDepth 20000 in
theorem zq_c218 : zq_cw zq_m218 ∈ zq_WG := List.mem_filter.mpr ⟨List.mem_append_right _ (List.mem_of_getElem? (i := 1583) rfl), rfl⟩
set_option maxRecDepth 20000 in
theorem zq_c219 : zq_cw zq_m219 ∈ zq_WG := List.mem_filter.mpr ⟨List.mem_append_right _ (List.mem_of_getElem? (i := 1587) rfl), rfl⟩
set_option maxRecDepth 20000 in
theorem zq_c220 : zq_cw zq_m220 ∈ zq_WG := List.mem_filter.mpr ⟨List.mem_append_right _ (List.mem_of_getElem? (i := 1591) rfl), rfl⟩
set_option maxRecDepth 20000 in
theorem zq_c221 : zq_cw zq_m221 ∈ zq_WG := List.mem_filter.mpr ⟨List.mem_append_right _ (List.mem_of_getElem? (i := 1595) rfl), rfl⟩
set_option maxRecDepth 20000 in
theorem zq_c222 : zq_cw zq_m222 ∈ zq_WG := List.mem_filter.mpr ⟨List.mem_append_right _ (List.mem_of_getElem? (i := 1599) rfl), rfl⟩
set_option maxRecDepth 20000 in
theorem zq_c223 : zq_cw zq_m223 ∈ zq_WG := List.mem_filter.mpr ⟨List.mem_append_right _ (List.mem_of_getElem? (i := 1603) rfl), rfl⟩
set_option maxRecDepth 20000 in
theorem zq_c224 : zq_cw zq_m224 ∈ zq_WG := List.mem_filter.mpr ⟨List.mem_append_right _ (List.mem_of_getElem? (i := 1607) rfl), rfl⟩
set_option maxRecDepth 20000 in
theorem zq_c225 : zq_cw zq_m225 ∈ zq_WG := List.mem_filter.mpr ⟨List.mem_append_right _ (List.mem_of_getElem? (i := 1611) rfl), rfl⟩
set_option maxRecDepth 20000 in
theorem zq_c226 : zq_cw zq_m226 ∈ zq_WG := List.mem_filter.mpr ⟨List.mem_append_right _ (List.mem_of_getElem? (i := 1615) rfl), rfl⟩
set_option maxRecDepth 20000 in
theorem zq_c227 : zq_cw zq_m227 ∈ zq_WG := List.mem_filter.mpr ⟨List.mem_append_right _ (List.mem_of_getElem? (i := 1619) rfl), rfl⟩
set_option maxRecDepth 20000 in
theorem zq_c228 : zq_cw zq_m228 ∈ zq_WG := List.mem_filter.mpr ⟨List.mem_append_right _ (List.mem_of_getElem? (i := 1623) rfl), rfl⟩
set_option maxRecDepth 20000 in
theorem zq_c229 : zq_cw zq_m229 ∈ zq_WG := List.mem_filter.mpr ⟨List.mem_append_right _ (List.mem_of_getElem? (i := 1627) rfl), rfl⟩
set_option maxRecDepth 20000 in
theorem zq_c230 : zq_cw zq_m230 ∈ zq_WG := List.mem_filter.mpr ⟨List.mem_append_right _ (List.mem_of_getElem? (i := 1632) rfl), rfl⟩
set_option maxRecDepth 20000 in
theorem zq_c231 : zq_cw zq_m231 ∈ zq_WG := List.mem_filter.mpr ⟨List.mem_append_right _ (List.mem_of_getElem? (i := 1636) rfl), rfl⟩
set_option maxRecDepth 20000 in
theorem zq_c232 : zq_cw zq_m232 ∈ zq_WG := List.mem_filter.mpr ⟨List.mem_append_right _ (List.mem_of_getElem? (i := 1640) rfl), rfl⟩
set_option maxRecDepth 20000 in
theorem zq_c233 : zq_cw zq_m233 ∈ zq_WG := List.mem_filter.mpr ⟨List.mem_append_right _ (List.mem_of_getElem? (i := 1643) rfl), rfl⟩
set_option maxRecDepth 20000 in
theorem zq_c234 : zq_cw zq_m234 ∈ zq_WG := List.mem_filter.mpr ⟨List.mem_append_right _ (List.mem_of_getElem? (i := 1647) rfl), rfl⟩
set_option maxRecDepth 20000 in
theorem zq_c235 : zq_cw zq_m235 ∈ zq_WG := List.mem_filter.mpr ⟨List.mem_append_right _ (List.mem_of_getElem? (i := 1651) rfl), rfl⟩
set_option maxRecDepth 20000 in
theorem zq_c236 : zq_cw zq_m236 ∈ zq_WG := List.mem_filter.mpr ⟨List.mem_append_right _ (List.mem_of_getElem? (i := 1655) rfl), rfl⟩
set_option maxRecDepth 20000 in
theorem zq_c237 : zq_cw zq_m237 ∈ zq_WG := List.mem_filter.mpr ⟨List.mem_append_right _ (List.mem_of_getElem? (i := 1659) rfl), rfl⟩
set_option maxRecDepth 20000 in
theorem zq_c238 : zq_cw zq_m238 ∈ zq_WG := List.mem_filter.mpr ⟨List.mem_append_right _ (List.mem_of_getElem? (i := 1663) rfl), rfl⟩
set_option maxRecDepth 20000 in
theorem zq_c239 : zq_cw zq_m239 ∈ zq_WG := List.mem_filter.mpr ⟨List.mem_append_right _ (List.mem_of_getElem? (i := 1667) rfl), rfl⟩
set_option maxRecDepth 20000 in
theorem zq_c240 : zq_cw zq_m240 ∈ zq_WG := List.mem_filter.mpr ⟨List.mem_append_right _ (List.mem_of_getElem? (i := 1671) rfl), rfl⟩
set_option maxRecDepth 20000 in
theorem zq_c241 : zq_cw zq_m241 ∈ zq_WG := List.mem_filter.mpr ⟨List.mem_append_right _ (List.mem_of_getElem? (i := 1675) rfl), rfl⟩
set_option maxRecDepth 20000 in
theorem zq_c242 : zq_cw zq_m242 ∈ zq_WG := List.mem_filter.mpr ⟨List.mem_append_right _ (List.mem_of_getElem? (i := 1679) rfl), rfl⟩
set_option maxRecDepth 20000 in
theorem zq_c243 : zq_cw zq_m243 ∈ zq_WG := List.mem_filter.mpr ⟨List.mem_append_right _ (List.mem_of_getElem? (i := 1683) rfl), rfl⟩
set_option maxRecDepth 20000 in
theorem zq_c244 : zq_cw zq_m244 ∈ zq_WG := List.mem_filter.mpr ⟨List.mem_append_right _ (List.mem_of_getElem? (i := 1687) rfl), rfl⟩
set_option maxRecDepth 20000 in
theorem zq_c245 : zq_cw zq_m245 ∈ zq_WG := List.mem_filter.mpr ⟨List.mem_append_right _ (List.mem_of_getElem? (i := 1690) rfl), rfl⟩
set_option maxRecDepth 20000 in
theorem zq_c246 : zq_cw zq_m246 ∈ zq_WG := List.mem_filter.mpr ⟨List.mem_append_right _ (List.mem_of_getElem? (i := 1693) rfl), rfl⟩
set_option maxRecDepth 20000 in
theorem zq_c247 : zq_cw zq_m247 ∈ zq_WG := List.mem_filter.mpr ⟨List.mem_append_right _ (List.mem_of_getElem? (i := 1697) rfl), rfl⟩
set_option maxRecDepth 20000 in
theorem zq_c248 : zq_cw zq_m248 ∈ zq_WG := List.mem_filter.mpr ⟨List.mem_append_right _ (List.mem_of_getElem? (i := 1701) rfl), rfl⟩
set_option maxRecDepth 20000 in
theorem zq_c249 : zq_cw zq_m249 ∈ zq_WG := List.mem_filter.mpr ⟨List.mem_append_right _ (List.mem_of_getElem? (i := 1705) rfl), rfl⟩
set_option maxRecDepth 20000 in
theorem zq_c250 : zq_cw zq_m250 ∈ zq_WG := List.mem_filter.mpr ⟨List.mem_append_right _ (List.mem_of_getElem? (i := 1709) rfl), rfl⟩
set_option maxRecDepth 20000 in
theorem zq_c251 : zq_cw zq_m251 ∈ zq_WG := List.mem_filter.mpr ⟨List.mem_append_right _ (List.mem_of_getElem? (i := 1712) rfl), rfl⟩
set_option maxRecDepth 20000 in
theorem zq_c252 : zq_cw zq_m252 ∈ zq_WG := List.mem_filter.mpr ⟨List.mem_append_right _ (List.mem_of_getElem? (i := 1716) rfl), rfl⟩
set_option maxRecDepth 20000 in
theorem zq_c253 : zq_cw zq_m253 ∈ zq_WG := List.mem_filter.mpr ⟨List.mem_append_right _ (List.mem_of_getElem? (i := 1721) rfl), rfl⟩
set_option maxRecDepth 20000 in
theorem zq_c254 : zq_cw zq_m254 ∈ zq_WG := List.mem_filter.mpr ⟨List.mem_append_right _ (List.mem_of_getElem? (i := 1725) rfl), rfl⟩
set_option maxRecDepth 20000 in
theorem zq_c255 : zq_cw zq_m255 ∈ zq_WG := List.mem_filter.mpr ⟨List.mem_append_right _ (List.mem_of_getElem? (i := 1729) rfl), rfl⟩
set_option maxRecDepth 20000 in
theorem zq_c256 : zq_cw zq_m256 ∈ zq_WG := List.mem_filter.mpr ⟨List.mem_append_right _ (List.mem_of_getElem? (i := 1733) rfl), rfl⟩
set_option maxRecDepth 20000 in
theorem zq_c257 : zq_cw zq_m257 ∈ zq_WG := List.mem_filter.mpr ⟨List.mem_append_right _ (List.mem_of_getElem? (i := 1737) rfl), rfl⟩
set_option maxRecDepth 20000 in
theorem zq_c258 : zq_cw zq_m258 ∈ zq_WG := List.mem_filter.mpr ⟨List.mem_append_right _ (List.mem_of_getElem? (i := 1741) rfl), rfl⟩
set_option maxRecDepth 20000 in
theorem zq_c259 : zq_cw zq_m259 ∈ zq_WG := List.mem_filter.mpr ⟨List.mem_append_right _ (List.mem_of_getElem? (i := 1745) rfl), rfl⟩
set_option maxRecDepth 20000 in
theorem zq_c260 : zq_cw zq_m260 ∈ zq_WG := List.mem_filter.mpr ⟨List.mem_append_right _ (List.mem_of_getElem? (i := 1749) rfl), rfl⟩
set_option maxRecDepth 20000 in
theorem zq_c261 : zq_cw zq_m261 ∈ zq_WG := List.mem_filter.mpr ⟨List.mem_append_right _ (List.mem_of_getElem? (i := 1753) rfl), rfl⟩
set_option maxRecDepth 20000 in
theorem zq_c262 : zq_cw zq_m262 ∈ zq_WG := List.mem_filter.mpr ⟨List.mem_append_right _ (List.mem_of_getElem? (i := 1757) rfl), rfl⟩
set_option maxRecDepth 20000 in
theorem zq_c263 : zq_cw zq_m263 ∈ zq_WG := List.mem_filter.mpr ⟨List.mem_append_right _ (List.mem_of_getElem? (i := 1761) rfl), rfl⟩
set_option maxRecDepth 20000 in
theorem zq_c264 : zq_cw zq_m264 ∈ zq_WG := List.mem_filter.mpr ⟨List.mem_append_right _ (List.mem_of_getElem? (i := 1765) rfl), rfl⟩
theorem zq_cg0 : ∀ q ∈ zq_MT0, zq_cw q ∈ zq_WG := List.forall_mem_cons.mpr ⟨zq_c0, List.forall_mem_cons.mpr ⟨zq_c1, List.forall_mem_cons.mpr ⟨zq_c2, List.forall_mem_cons.mpr ⟨zq_c3, List.forall_mem_cons.mpr ⟨zq_c4, List.forall_mem_cons.mpr ⟨zq_c5, List.forall_mem_cons.mpr ⟨zq_c6, List.forall_mem_cons.mpr ⟨zq_c7, List.forall_mem_cons.mpr ⟨zq_c8, List.forall_mem_cons.mpr ⟨zq_c9, List.forall_mem_cons.mpr ⟨zq_c10, List.forall_mem_cons.mpr ⟨zq_c11, List.forall_mem_cons.mpr ⟨zq_c12, List.forall_mem_cons.mpr ⟨zq_c13, List.forall_mem_cons.mpr ⟨zq_c14, List.forall_mem_cons.mpr ⟨zq_c15, fun _ h => absurd h List.not_mem_nil⟩⟩⟩⟩⟩⟩⟩⟩⟩⟩⟩⟩⟩⟩⟩⟩
theorem zq_cg1 : ∀ q ∈ zq_MT1, zq_cw q ∈ zq_WG := List.forall_mem_cons.mpr ⟨zq_c16, List.forall_mem_cons.mpr ⟨zq_c17, List.forall_mem_cons.mpr ⟨zq_c18, List.forall_mem_cons.mpr ⟨zq_c19, List.forall_mem_cons.mpr ⟨zq_c20, List.forall_mem_cons.mpr ⟨zq_c21, List.forall_mem_cons.mpr ⟨zq_c22, List.forall_mem_cons.mpr ⟨zq_c23, List.forall_mem_cons.mpr ⟨zq_c24, List.forall_mem_cons.mpr ⟨zq_c25, List.forall_mem_cons.mpr ⟨zq_c26, List.forall_mem_cons.mpr ⟨zq_c27, List.forall_mem_cons.mpr ⟨zq_c28, List.forall_mem_cons.mpr ⟨zq_c29, List.forall_mem_cons.mpr ⟨zq_c30, List.forall_mem_cons.mpr ⟨zq_c31, fun _ h => absurd h List.not_mem_nil⟩⟩⟩⟩⟩⟩⟩⟩⟩⟩⟩⟩⟩⟩⟩⟩
theorem zq_cg2 : ∀ q ∈ zq_MT2, zq_cw q ∈ zq_WG := List.forall_mem_cons.mpr ⟨zq_c32, List.forall_mem_cons.mpr ⟨zq_c33, List.forall_mem_cons.mpr ⟨zq_c34, List.forall_mem_cons.mpr ⟨zq_c35, List.forall_mem_cons.mpr ⟨zq_c36, List.forall_mem_cons.mpr ⟨zq_c37, List.forall_mem_cons.mpr ⟨zq_c38, List.forall_mem_cons.mpr ⟨zq_c39, List.forall_mem_cons.mpr ⟨zq_c40, List.forall_mem_cons.mpr ⟨zq_c41, List.forall_mem_cons.mpr ⟨zq_c42, List.forall_mem_cons.mpr ⟨zq_c43, List.forall_mem_cons.mpr ⟨zq_c44, List.forall_mem_cons.mpr ⟨zq_c45, List.forall_mem_cons.mpr ⟨zq_c46, List.forall_mem_cons.mpr ⟨zq_c47, fun _ h => absurd h List.not_mem_nil⟩⟩⟩⟩⟩⟩⟩⟩⟩⟩⟩⟩⟩⟩⟩⟩
theorem zq_cg3 : ∀ q ∈ zq_MT3, zq_cw q ∈ zq_WG := List.forall_mem_cons.mpr ⟨zq_c48, List.forall_mem_cons.mpr ⟨zq_c49, List.forall_mem_cons.mpr ⟨zq_c50, List.forall_mem_cons.mpr ⟨zq_c51, List.forall_mem_cons.mpr ⟨zq_c52, List.forall_mem_cons.mpr ⟨zq_c53, List.forall_mem_cons.mpr ⟨zq_c54, List.forall_mem_cons.mpr ⟨zq_c55, List.forall_mem_cons.mpr ⟨zq_c56, List.forall_mem_cons.mpr ⟨zq_c57, List.forall_mem_cons.mpr ⟨zq_c58, List.forall_mem_cons.mpr ⟨zq_c59, List.forall_mem_cons.mpr ⟨zq_c60, List.forall_mem_cons.mpr ⟨zq_c61, List.forall_mem_cons.mpr ⟨zq_c62, List.forall_mem_cons.mpr ⟨zq_c63, fun _ h => absurd h List.not_mem_nil⟩⟩⟩⟩⟩⟩⟩⟩⟩⟩⟩⟩⟩⟩⟩⟩
theorem zq_cg4 : ∀ q ∈ zq_MT4, zq_cw q ∈ zq_WG := List.forall_mem_cons.mpr ⟨zq_c64, List.forall_mem_cons.mpr ⟨zq_c65, List.forall_mem_cons.mpr ⟨zq_c66, List.forall_mem_cons.mpr ⟨zq_c67, List.forall_mem_cons.mpr ⟨zq_c68, List.forall_mem_cons.mpr ⟨zq_c69, List.forall_mem_cons.mpr ⟨zq_c70, List.forall_mem_cons.mpr ⟨zq_c71, List.forall_mem_cons.mpr ⟨zq_c72, List.forall_mem_cons.mpr ⟨zq_c73, List.forall_mem_cons.mpr ⟨zq_c74, List.forall_mem_cons.mpr ⟨zq_c75, List.forall_mem_cons.mpr ⟨zq_c76, List.forall_mem_cons.mpr ⟨zq_c77, List.forall_mem_cons.mpr ⟨zq_c78, List.forall_mem_cons.mpr ⟨zq_c79, fun _ h => absurd h List.not_mem_nil⟩⟩⟩⟩⟩⟩⟩⟩⟩⟩⟩⟩⟩⟩⟩⟩
theorem zq_cg5 : ∀ q ∈ zq_MT5, zq_cw q ∈ zq_WG := List.forall_mem_cons.mpr ⟨zq_c80, List.forall_mem_cons.mpr ⟨zq_c81, List.forall_mem_cons.mpr ⟨zq_c82, List.forall_mem_cons.mpr ⟨zq_c83, List.forall_mem_cons.mpr ⟨zq_c84, List.forall_mem_cons.mpr ⟨zq_c85, List.forall_mem_cons.mpr ⟨zq_c86, List.forall_mem_cons.mpr ⟨zq_c87, List.forall_mem_cons.mpr ⟨zq_c88, List.forall_mem_cons.mpr ⟨zq_c89, List.forall_mem_cons.mpr ⟨zq_c90, List.forall_mem_cons.mpr ⟨zq_c91, List.forall_mem_cons.mpr ⟨zq_c92, List.forall_mem_cons.mpr ⟨zq_c93, List.forall_mem_cons.mpr ⟨zq_c94, List.forall_mem_cons.mpr ⟨zq_c95, fun _ h => absurd h List.not_mem_nil⟩⟩⟩⟩⟩⟩⟩⟩⟩⟩⟩⟩⟩⟩⟩⟩
theorem zq_cg6 : ∀ q ∈ zq_MT6, zq_cw q ∈ zq_WG := List.forall_mem_cons.mpr ⟨zq_c96, List.forall_mem_cons.mpr ⟨zq_c97, List.forall_mem_cons.mpr ⟨zq_c98, List.forall_mem_cons.mpr ⟨zq_c99, List.forall_mem_cons.mpr ⟨zq_c100, List.forall_mem_cons.mpr ⟨zq_c101, List.forall_mem_cons.mpr ⟨zq_c102, List.forall_mem_cons.mpr ⟨zq_c103, List.forall_mem_cons.mpr ⟨zq_c104, List.forall_mem_cons.mpr ⟨zq_c105, List.forall_mem_cons.mpr ⟨zq_c106, List.forall_mem_cons.mpr ⟨zq_c107, List.forall_mem_cons.mpr ⟨zq_c108, List.forall_mem_cons.mpr ⟨zq_c109, List.forall_mem_cons.mpr ⟨zq_c110, List.forall_mem_cons.mpr ⟨zq_c111, fun _ h => absurd h List.not_mem_nil⟩⟩⟩⟩⟩⟩⟩⟩⟩⟩⟩⟩⟩⟩⟩⟩
theorem zq_cg7 : ∀ q ∈ zq_MT7, zq_cw q ∈ zq_WG := List.forall_mem_cons.mpr ⟨zq_c112, List.forall_mem_cons.mpr ⟨zq_c113, List.forall_mem_cons.mpr ⟨zq_c114, List.forall_mem_cons.mpr ⟨zq_c115, List.forall_mem_cons.mpr ⟨zq_c116, List.forall_mem_cons.mpr ⟨zq_c117, List.forall_mem_cons.mpr ⟨zq_c118, List.forall_mem_cons.mpr ⟨zq_c119, List.forall_mem_cons.mpr ⟨zq_c120, List.forall_mem_cons.mpr ⟨zq_c121, List.forall_mem_cons.mpr ⟨zq_c122, List.forall_mem_cons.mpr ⟨zq_c123, List.forall_mem_cons.mpr ⟨zq_c124, List.forall_mem_cons.mpr ⟨zq_c125, List.forall_mem_cons.mpr ⟨zq_c126, List.forall_mem_cons.mpr ⟨zq_c127, fun _ h => absurd h List.not_mem_nil⟩⟩⟩⟩⟩⟩⟩⟩⟩⟩⟩⟩⟩⟩⟩⟩
theorem zq_cg8 : ∀ q ∈ zq_MT8, zq_cw q ∈ zq_WG := List.forall_mem_cons.mpr ⟨zq_c128, List.forall_mem_cons.mpr ⟨zq_c129, List.forall_mem_cons.mpr ⟨zq_c130, List.forall_mem_cons.mpr ⟨zq_c131, List.forall_mem_cons.mpr ⟨zq_c132, List.forall_mem_cons.mpr ⟨zq_c133, List.forall_mem_cons.mpr ⟨zq_c134, List.forall_mem_cons.mpr ⟨zq_c135, List.forall_mem_cons.mpr ⟨zq_c136, List.forall_mem_cons.mpr ⟨zq_c137, List.forall_mem_cons.mpr ⟨zq_c138, List.forall_mem_cons.mpr ⟨zq_c139, List.forall_mem_cons.mpr ⟨zq_c140, List.forall_mem_cons.mpr ⟨zq_c141, List.forall_mem_cons.mpr ⟨zq_c142, List.forall_mem_cons.mpr ⟨zq_c143, fun _ h => absurd h List.not_mem_nil⟩⟩⟩⟩⟩⟩⟩⟩⟩⟩⟩⟩⟩⟩⟩⟩
theorem zq_cg9 : ∀ q ∈ zq_MT9, zq_cw q ∈ zq_WG := List.forall_mem_cons.mpr ⟨zq_c144, List.forall_mem_cons.mpr ⟨zq_c145, List.forall_mem_cons.mpr ⟨zq_c146, List.forall_mem_cons.mpr ⟨zq_c147, List.forall_mem_cons.mpr ⟨zq_c148, List.forall_mem_cons.mpr ⟨zq_c149, List.forall_mem_cons.mpr ⟨zq_c150, List.forall_mem_cons.mpr ⟨zq_c151, List.forall_mem_cons.mpr ⟨zq_c152, List.forall_mem_cons.mpr ⟨zq_c153, List.forall_mem_cons.mpr ⟨zq_c154, List.forall_mem_cons.mpr ⟨zq_c155, List.forall_mem_cons.mpr ⟨zq_c156, List.forall_mem_cons.mpr ⟨zq_c157, List.forall_mem_cons.mpr ⟨zq_c158, List.forall_mem_cons.mpr ⟨zq_c159, fun _ h => absurd h List.not_mem_nil⟩⟩⟩⟩⟩⟩⟩⟩⟩⟩⟩⟩⟩⟩⟩⟩
theorem zq_cg10 : ∀ q ∈ zq_MT10, zq_cw q ∈ zq_WG := List.forall_mem_cons.mpr ⟨zq_c160, List.forall_mem_cons.mpr ⟨zq_c161, List.forall_mem_cons.mpr ⟨zq_c162, List.forall_mem_cons.mpr ⟨zq_c163, List.forall_mem_cons.mpr ⟨zq_c164, List.forall_mem_cons.mpr ⟨zq_c165, List.forall_mem_cons.mpr ⟨zq_c166, List.forall_mem_cons.mpr ⟨zq_c167, List.forall_mem_cons.mpr ⟨zq_c168, List.forall_mem_cons.mpr ⟨zq_c169, List.forall_mem_cons.mpr ⟨zq_c170, List.forall_mem_cons.mpr ⟨zq_c171, List.forall_mem_cons.mpr ⟨zq_c172, List.forall_mem_cons.mpr ⟨zq_c173, List.forall_mem_cons.mpr ⟨zq_c174, List.forall_mem_cons.mpr ⟨zq_c175, fun _ h => absurd h List.not_mem_nil⟩⟩⟩⟩⟩⟩⟩⟩⟩⟩⟩⟩⟩⟩⟩⟩
theorem zq_cg11 : ∀ q ∈ zq_MT11, zq_cw q ∈ zq_WG := List.forall_mem_cons.mpr ⟨zq_c176, List.forall_mem_cons.mpr ⟨zq_c177, List.forall_mem_cons.mpr ⟨zq_c178, List.forall_mem_cons.mpr ⟨zq_c179, List.forall_mem_cons.mpr ⟨zq_c180, List.forall_mem_cons.mpr ⟨zq_c181, List.forall_mem_cons.mpr ⟨zq_c182, List.forall_mem_cons.mpr ⟨zq_c183, List.forall_mem_cons.mpr ⟨zq_c184, List.forall_mem_cons.mpr ⟨zq_c185, List.forall_mem_cons.mpr ⟨zq_c186, List.forall_mem_cons.mpr ⟨zq_c187, List.forall_mem_cons.mpr ⟨zq_c188, List.forall_mem_cons.mpr ⟨zq_c189, List.forall_mem_cons.mpr ⟨zq_c190, List.forall_mem_cons.mpr ⟨zq_c191, fun _ h => absurd h List.not_mem_nil⟩⟩⟩⟩⟩⟩⟩⟩⟩⟩⟩⟩⟩⟩⟩⟩
theorem zq_cg12 : ∀ q ∈ zq_MT12, zq_cw q ∈ zq_WG := List.forall_mem_cons.mpr ⟨zq_c192, List.forall_mem_cons.mpr ⟨zq_c193, List.forall_mem_cons.mpr ⟨zq_c194, List.forall_mem_cons.mpr ⟨zq_c195, List.forall_mem_cons.mpr ⟨zq_c196, List.forall_mem_cons.mpr ⟨zq_c197, List.forall_mem_cons.mpr ⟨zq_c198, List.forall_mem_cons.mpr ⟨zq_c199, List.forall_mem_cons.mpr ⟨zq_c200, List.forall_mem_cons.mpr ⟨zq_c201, List.forall_mem_cons.mpr ⟨zq_c202, List.forall_mem_cons.mpr ⟨zq_c203, List.forall_mem_cons.mpr ⟨zq_c204, List.forall_mem_cons.mpr ⟨zq_c205, List.forall_mem_cons.mpr ⟨zq_c206, List.forall_mem_cons.mpr ⟨zq_c207, fun _ h => absurd h List.not_mem_nil⟩⟩⟩⟩⟩⟩⟩⟩⟩⟩⟩⟩⟩⟩⟩⟩
theorem zq_cg13 : ∀ q ∈ zq_MT13, zq_cw q ∈ zq_WG := List.forall_mem_cons.mpr ⟨zq_c208, List.forall_mem_cons.mpr ⟨zq_c209, List.forall_mem_cons.mpr ⟨zq_c210, List.forall_mem_cons.mpr ⟨zq_c211, List.forall_mem_cons.mpr ⟨zq_c212, List.forall_mem_cons.mpr ⟨zq_c213, List.forall_mem_cons.mpr ⟨zq_c214, List.forall_mem_cons.mpr ⟨zq_c215, List.forall_mem_cons.mpr ⟨zq_c216, List.forall_mem_cons.mpr ⟨zq_c217, List.forall_mem_cons.mpr ⟨zq_c218, List.forall_mem_cons.mpr ⟨zq_c219, List.forall_mem_cons.mpr ⟨zq_c220, List.forall_mem_cons.mpr ⟨zq_c221, List.forall_mem_cons.mpr ⟨zq_c222, List.forall_mem_cons.mpr ⟨zq_c223, fun _ h => absurd h List.not_mem_nil⟩⟩⟩⟩⟩⟩⟩⟩⟩⟩⟩⟩⟩⟩⟩⟩
theorem zq_cg14 : ∀ q ∈ zq_MT14, zq_cw q ∈ zq_WG := List.forall_mem_cons.mpr ⟨zq_c224, List.forall_mem_cons.mpr ⟨zq_c225, List.forall_mem_cons.mpr ⟨zq_c226, List.forall_mem_cons.mpr ⟨zq_c227, List.forall_mem_cons.mpr ⟨zq_c228, List.forall_mem_cons.mpr ⟨zq_c229, List.forall_mem_cons.mpr ⟨zq_c230, List.forall_mem_cons.mpr ⟨zq_c231, List.forall_mem_cons.mpr ⟨zq_c232, List.forall_mem_cons.mpr ⟨zq_c233, List.forall_mem_cons.mpr ⟨zq_c234, List.forall_mem_cons.mpr ⟨zq_c235, List.forall_mem_cons.mpr ⟨zq_c236, List.forall_mem_cons.mpr ⟨zq_c237, List.forall_mem_cons.mpr ⟨zq_c238, List.forall_mem_cons.mpr ⟨zq_c239, fun _ h => absurd h List.not_mem_nil⟩⟩⟩⟩⟩⟩⟩⟩⟩⟩⟩⟩⟩⟩⟩⟩
theorem zq_cg15 : ∀ q ∈ zq_MT15, zq_cw q ∈ zq_WG := List.forall_mem_cons.mpr ⟨zq_c240, List.forall_mem_cons.mpr ⟨zq_c241, List.forall_mem_cons.mpr ⟨zq_c242, List.forall_mem_cons.mpr ⟨zq_c243, List.forall_mem_cons.mpr ⟨zq_c244, List.forall_mem_cons.mpr ⟨zq_c245, List.forall_mem_cons.mpr ⟨zq_c246, List.forall_mem_cons.mpr ⟨zq_c247, List.forall_mem_cons.mpr ⟨zq_c248, List.forall_mem_cons.mpr ⟨zq_c249, List.forall_mem_cons.mpr ⟨zq_c250, List.forall_mem_cons.mpr ⟨zq_c251, List.forall_mem_cons.mpr ⟨zq_c252, List.forall_mem_cons.mpr ⟨zq_c253, List.forall_mem_cons.mpr ⟨zq_c254, List.forall_mem_cons.mpr ⟨zq_c255, fun _ h => absurd h List.not_mem_nil⟩⟩⟩⟩⟩⟩⟩⟩⟩⟩⟩⟩⟩⟩⟩⟩
theorem zq_cg16 : ∀ q ∈ zq_MT16, zq_cw q ∈ zq_WG := List.forall_mem_cons.mpr ⟨zq_c256, List.forall_mem_cons.mpr ⟨zq_c257, List.forall_mem_cons.mpr ⟨zq_c258, List.forall_mem_cons.mpr ⟨zq_c259, List.forall_mem_cons.mpr ⟨zq_c260, List.forall_mem_cons.mpr ⟨zq_c261, List.forall_mem_cons.mpr ⟨zq_c262, List.forall_mem_cons.mpr ⟨zq_c263, List.forall_mem_cons.mpr ⟨zq_c264, fun _ h => absurd h List.not_mem_nil⟩⟩⟩⟩⟩⟩⟩⟩⟩
theorem zq_app {P : zq_I → Prop} {a b : List zq_I} (ha : ∀ q ∈ a, P q) (hb : ∀ q ∈ b, P q) : ∀ q ∈ a ++ b, P q := fun q h => (List.mem_append.mp h).elim (ha q) (hb q)
theorem zq_cok : ∀ q ∈ zq_MT, zq_cw q ∈ zq_WG := zq_app zq_cg0 (zq_app zq_cg1 (zq_app zq_cg2 (zq_app zq_cg3 (zq_app zq_cg4 (zq_app zq_cg5 (zq_app zq_cg6 (zq_app zq_cg7 (zq_app zq_cg8 (zq_app zq_cg9 (zq_app zq_cg10 (zq_app zq_cg11 (zq_app zq_cg12 (zq_app zq_cg13 (zq_app zq_cg14 (zq_app zq_cg15 (zq_cg16))))))))))))))))
/-- what else a call needs of a method: places of its words among the tables -/
def zq_mp : List (Nat × Nat × Nat) := [(114, 136, 0), (115, 144, 0), (116, 193, 0), (117, 229, 0), (118, 256, 0), (119, 301, 0), (120, 324, 0), (121, 339, 0), (122, 345, 0), (123, 454, 0), (116, 475, 476), (114, 479, 0), (114, 482, 0), (114, 540, 541), (115, 544, 545), (114, 549, 550), (121, 553, 554), (121, 558, 0), (122, 561, 562), (115, 566, 567), (115, 570, 571), (115, 575, 1), (115, 578, 0), (115, 581, 0), (121, 587, 2), (121, 593, 3), (115, 596, 597), (121, 602, 4), (115, 605, 606), (121, 609, 0), (121, 612, 613), (115, 616, 617), (115, 620, 621), (115, 628, 629), (115, 632, 633), (114, 636, 0), (121, 642, 5), (115, 645, 646), (115, 649, 650), (121, 656, 6), (122, 666, 667), (122, 671, 7), (122, 675, 8), (122, 679, 9), (122, 683, 10), (122, 687, 11), (122, 696, 12), (121, 706, 13), (121, 712, 14), (121, 722, 15), (121, 726, 16), (122, 729, 730), (121, 735, 17), (122, 739, 740), (122, 743, 0), (114, 746, 0), (121, 756, 18), (115, 759, 760), (117, 763, 764), (114, 767, 768), (123, 771, 772), (123, 777, 19), (123, 785, 20), (123, 789, 21), (123, 792, 0), (114, 801, 802), (121, 805, 806), (121, 810, 811), (121, 814, 815), (121, 818, 819), (114, 823, 824), (116, 828, 829), (114, 832, 833), (114, 837, 838), (121, 841, 842), (121, 846, 847), (114, 851, 852), (114, 857, 22), (116, 860, 861), (120, 864, 865), (120, 868, 869), (120, 873, 874), (114, 882, 883), (116, 886, 887), (116, 893, 894), (114, 897, 898), (116, 901, 902), (114, 905, 906), (116, 909, 910), (116, 913, 914), (121, 918, 919), (128, 922, 0), (121, 926, 927), (114, 930, 931), (114, 934, 935), (123, 938, 939), (123, 943, 23), (114, 953, 954), (114, 957, 958), (118, 961, 962), (118, 967, 24), (118, 971, 25), (114, 977, 978), (118, 981, 982), (114, 986, 987), (114, 990, 991), (118, 994, 995), (114, 998, 0), (118, 1003, 26), (118, 1007, 27), (118, 1010, 0), (114, 1014, 1015), (119, 1018, 1019), (119, 1025, 28), (119, 1028, 0), (121, 1032, 1033), (114, 1036, 1037), (114, 1040, 1041), (114, 1045, 29), (119, 1048, 1049), (128, 1052, 0), (114, 1060, 1061), (119, 1064, 1065), (119, 1069, 0), (114, 1073, 1074), (114, 1078, 1079), (114, 1083, 30), (117, 1086, 1087), (114, 1092, 31), (114, 1096, 0), (114, 1100, 1101), (114, 1105, 1106), (114, 1109, 1110), (114, 1114, 32), (114, 1119, 1120), (114, 1124, 33), (114, 1128, 34), (114, 1131, 1132), (114, 1136, 1137), (117, 1140, 1141), (114, 1145, 1146), (116, 1149, 1150), (114, 1157, 1158), (114, 1222, 0), (124, 1225, 1226), (124, 1229, 1230), (124, 1234, 36), (124, 1239, 0), (124, 1280, 37), (124, 1284, 38), (124, 1288, 39), (124, 1292, 40), (124, 1296, 41), (124, 1300, 42), (124, 1437, 1438), (124, 1442, 43), (124, 1445, 0), (124, 1449, 0), (124, 1452, 0), (124, 1457, 0), (124, 1461, 44), (124, 1465, 45), (124, 1469, 46), (124, 1473, 47), (124, 1477, 48), (124, 1481, 49), (124, 1485, 50), (124, 1489, 51), (124, 1493, 52), (124, 1497, 53), (124, 1501, 54), (124, 1505, 55), (124, 1509, 56), (124, 1512, 0), (124, 1516, 57), (124, 1520, 58), (124, 1524, 59), (124, 1528, 60), (124, 1532, 61), (124, 1536, 62), (124, 1540, 63), (124, 1544, 64), (124, 1548, 65), (124, 1552, 66), (124, 1556, 67), (124, 1559, 1560), (124, 1564, 68), (124, 1567, 1568), (124, 1572, 69), (124, 1576, 70), (124, 1580, 71), (124, 1584, 72), (124, 1588, 73), (124, 1592, 74), (124, 1596, 75), (124, 1599, 0), (124, 1603, 76), (124, 1606, 1607), (124, 1611, 77), (124, 1615, 78), (124, 1618, 1619), (124, 1622, 1623), (124, 1627, 79), (124, 1631, 80), (124, 1634, 1635), (124, 1639, 81), (124, 1643, 82), (124, 1647, 83), (124, 1651, 84), (124, 1658, 1659), (124, 1663, 85), (124, 1667, 86), (124, 1670, 1671), (124, 1674, 1675), (124, 1679, 87), (124, 1683, 88), (124, 1687, 89), (124, 1691, 90), (124, 1695, 91), (124, 1699, 92), (124, 1702, 1703), (124, 1706, 1707), (124, 1711, 93), (124, 1714, 1715), (124, 1718, 1719), (124, 1723, 94), (124, 1727, 95), (124, 1731, 96), (124, 1735, 97), (124, 1738, 1739), (124, 1743, 1744), (124, 1747, 1748), (124, 1752, 98), (124, 1755, 0), (124, 1758, 1759), (124, 1763, 99), (124, 1767, 100), (124, 1771, 101), (124, 1775, 102), (124, 1778, 1779), (124, 1782, 1783), (124, 1787, 103), (124, 1791, 104), (124, 1795, 105), (124, 1798, 1799), (124, 1802, 0), (124, 1805, 0), (124, 1808, 1809), (124, 1812, 1813), (124, 1817, 106), (124, 1821, 107), (124, 1824, 0), (124, 1827, 1828), (124, 1832, 1833), (124, 1836, 1837), (124, 1841, 108), (124, 1845, 109), (124, 1848, 1849), (124, 1853, 110), (124, 1857, 111), (124, 1860, 1861), (124, 1865, 112), (124, 1868, 1869), (124, 1872, 1873), (124, 1876, 1877)]
def zq_mchk (q : zq_I) (p : Nat × Nat × Nat) : Bool := plainName q.1.cls && decide (q.1.cls ≠ "java/lang/invoke/MethodHandle" ∧ q.1.cls ≠ "java/lang/invoke/VarHandle") && decide (q.1.cls = zq_R q.2.2.2.2.1) && zq_has p.1 (.initialized q.1.cls) && decide ((parseMethodDescriptor q.1.desc).map (fun d => d.parameters.length) = some (q.2.2.2.2.2.1 - (if q.2.2.2.2.2.2 = 0 then 0 else 1))) && (if q.2.2.2.2.2.2 = 0 then zq_has p.2.1 (.static q.1) else zq_has p.2.1 (.instanceMethod q.1)) && (if q.2.2.2.2.2.2 = 1 then zq_has p.2.2 (.selects q.1.cls q.1 q.1) else true) && decide (q.2.2.2.2.2.2 = 2 → q.1.name = "<init>" ∧ q.2.2.2.1 = none) && decide (q.2.2.1 ≤ 21) && decide (q.2.2.2.2.2.2 ≠ 0 → 1 ≤ q.2.2.2.2.2.1)
theorem zq_mk0 : ∀ i, i < 16 → zq_mchk (zq_MT0.getD i zq_m0) (zq_mp.getD (i + 0) (0, 0, 0)) = true := by decide +kernel
theorem zq_mk1 : ∀ i, i < 16 → zq_mchk (zq_MT1.getD i zq_m0) (zq_mp.getD (i + 16) (0, 0, 0)) = true := by decide +kernel
theorem zq_mk2 : ∀ i, i < 16 → zq_mchk (zq_MT2.getD i zq_m0) (zq_mp.getD (i + 32) (0, 0, 0)) = true := by decide +kernel
theorem zq_mk3 : ∀ i, i < 16 → zq_mchk (zq_MT3.getD i zq_m0) (zq_mp.getD (i + 48) (0, 0, 0)) = true := by decide +kernel
theorem zq_mk4 : ∀ i, i < 16 → zq_mchk (zq_MT4.getD i zq_m0) (zq_mp.getD (i + 64) (0, 0, 0)) = true := by decide +kernel
theorem zq_mk5 : ∀ i, i < 16 → zq_mchk (zq_MT5.getD i zq_m0) (zq_mp.getD (i + 80) (0, 0, 0)) = true := by decide +kernel
theorem zq_mk6 : ∀ i, i < 16 → zq_mchk (zq_MT6.getD i zq_m0) (zq_mp.getD (i + 96) (0, 0, 0)) = true := by decide +kernel
theorem zq_mk7 : ∀ i, i < 16 → zq_mchk (zq_MT7.getD i zq_m0) (zq_mp.getD (i + 112) (0, 0, 0)) = true := by decide +kernel
theorem zq_mk8 : ∀ i, i < 16 → zq_mchk (zq_MT8.getD i zq_m0) (zq_mp.getD (i + 128) (0, 0, 0)) = true := by decide +kernel
theorem zq_mk9 : ∀ i, i < 16 → zq_mchk (zq_MT9.getD i zq_m0) (zq_mp.getD (i + 144) (0, 0, 0)) = true := by decide +kernel
theorem zq_mk10 : ∀ i, i < 16 → zq_mchk (zq_MT10.getD i zq_m0) (zq_mp.getD (i + 160) (0, 0, 0)) = true := by decide +kernel
theorem zq_mk11 : ∀ i, i < 16 → zq_mchk (zq_MT11.getD i zq_m0) (zq_mp.getD (i + 176) (0, 0, 0)) = true := by decide +kernel
theorem zq_mk12 : ∀ i, i < 16 → zq_mchk (zq_MT12.getD i zq_m0) (zq_mp.getD (i + 192) (0, 0, 0)) = true := by decide +kernel
theorem zq_mk13 : ∀ i, i < 16 → zq_mchk (zq_MT13.getD i zq_m0) (zq_mp.getD (i + 208) (0, 0, 0)) = true := by decide +kernel
theorem zq_mk14 : ∀ i, i < 16 → zq_mchk (zq_MT14.getD i zq_m0) (zq_mp.getD (i + 224) (0, 0, 0)) = true := by decide +kernel
theorem zq_mk15 : ∀ i, i < 16 → zq_mchk (zq_MT15.getD i zq_m0) (zq_mp.getD (i + 240) (0, 0, 0)) = true := by decide +kernel
theorem zq_mk16 : ∀ i, i < 9 → zq_mchk (zq_MT16.getD i zq_m0) (zq_mp.getD (i + 256) (0, 0, 0)) = true := by decide +kernel
end
section
/-! the methods' instructions, read off the decode rows; printed by wip/whole/gen1.py -/
def zq_L0 : List (Nat × Instr × Nat) := [(0, .aload_n 0, 1), (1, .invokespecial 1, 3), (4, .aload_n 0, 1), (5, .new 7, 3), (8, .dup, 1), (9, .invokespecial 9, 3), (12, .putfield 10, 3), (15, .aload_n 0, 1), (16, .new 16, 3), (19, .dup, 1), (20, .invokespecial 18, 3), (23, .putfield 19, 3), (26, .aload_n 0, 1), (27, .new 16, 3), (30, .dup, 1), (31, .invokespecial 18, 3), (34, .putfield 23, 3), (37, .aload_n 0, 1), (38, .new 26, 3), (41, .dup, 1), (42, .invokespecial 28, 3), (45, .putfield 29, 3), (48, .aload_n 0, 1), (49, .new 33, 3), (52, .dup, 1), (53, .invokespecial 35, 3), (56, .putfield 36, 3), (59, .aload_n 0, 1), (60, .new 40, 3), (63, .dup, 1), (64, .invokespecial 42, 3), (67, .putfield 43, 3), (70, .aload_n 0, 1), (71, .new 47, 3), (74, .dup, 1), (75, .invokespecial 49, 3), (78, .putfield 50, 3), (81, .aload_n 0, 1), (82, .bipush 16, 2), (84, .anewarray 16, 3), (87, .putfield 54, 3), (90, .aload_n 0, 1), (91, .iconst 4, 1), (92, .anewarray 16, 3), (95, .putfield 58, 3), (98, .aload_n 0, 1), (99, .iconst 4, 1), (100, .anewarray 26, 3), (103, .putfield 61, 3), (106, .aload_n 0, 1), (107, .bipush 41, 2), (109, .newarray .int, 2), (111, .putfield 65, 3), (114, .aload_n 0, 1), (115, .new 69, 3), (118, .dup, 1), (119, .invokespecial 71, 3), (122, .putfield 72, 3), (125, .aload_n 0, 1), (126, .new 69, 3), (129, .dup, 1), (130, .invokespecial 71, 3), (133, .putfield 76, 3), (136, .aload_n 0, 1), (137, .new 79, 3), (140, .dup, 1), (141, .invokespecial 81, 3), (144, .putfield 82, 3), (147, .aload_n 0, 1), (148, .new 79, 3), (151, .dup, 1), (152, .invokespecial 81, 3), (155, .putfield 86, 3), (158, .iconst 0, 1), (159, .istore_n 1, 1), (160, .iload_n 1, 1), (161, .bipush 16, 2), (163, .if_icmp .ge 22, 3), (166, .aload_n 0, 1), (167, .getfield 54, 3), (170, .iload_n 1, 1), (171, .new 16, 3), (174, .dup, 1), (175, .invokespecial 18, 3), (178, .aastore, 1), (179, .iinc 1 1, 3), (182, .goto (-22), 3), (185, .iconst 0, 1), (186, .istore_n 1, 1), (187, .iload_n 1, 1), (188, .iconst 4, 1), (189, .if_icmp .ge 35, 3), (192, .aload_n 0, 1), (193, .getfield 58, 3), (196, .iload_n 1, 1), (197, .new 16, 3), (200, .dup, 1), (201, .invokespecial 18, 3), (204, .aastore, 1), (205, .aload_n 0, 1), (206, .getfield 61, 3), (209, .iload_n 1, 1), (210, .new 26, 3), (213, .dup, 1), (214, .invokespecial 28, 3), (217, .aastore, 1), (218, .iinc 1 1, 3), (221, .goto (-34), 3), (224, .aload_n 0, 1), (225, .getfield 19, 3), (228, .aload_n 0, 1), (229, .getfield 72, 3), (232, .invokevirtual 89, 3), (235, .return_, 1)]
def zq_L1 : List (Nat × Instr × Nat) := [(0, .aload_n 0, 1), (1, .invokespecial 3, 3), (4, .aload_n 0, 1), (5, .sipush 1000, 3), (8, .newarray .char, 2), (10, .putfield 9, 3), (13, .return_, 1)]
def zq_L2 : List (Nat × Instr × Nat) := [(0, .aload_n 0, 1), (1, .invokespecial 3, 3), (4, .aload_n 0, 1), (5, .bipush 6, 2), (7, .newarray .int, 2), (9, .putfield 9, 3), (12, .aload_n 0, 1), (13, .bipush 6, 2), (15, .newarray .int, 2), (17, .putfield 15, 3), (20, .return_, 1)]
def zq_L3 : List (Nat × Instr × Nat) := [(0, .aload_n 0, 1), (1, .invokespecial 3, 3), (4, .aload_n 0, 1), (5, .iconst 5, 1), (6, .newarray .int, 2), (8, .putfield 9, 3), (11, .aload_n 0, 1), (12, .bipush 8, 2), (14, .newarray .int, 2), (16, .putfield 15, 3), (19, .aload_n 0, 1), (20, .bipush 8, 2), (22, .newarray .int, 2), (24, .putfield 18, 3), (27, .return_, 1)]
def zq_L4 : List (Nat × Instr × Nat) := [(0, .aload_n 0, 1), (1, .invokespecial 3, 3), (4, .aload_n 0, 1), (5, .bipush 6, 2), (7, .newarray .int, 2), (9, .putfield 9, 3), (12, .aload_n 0, 1), (13, .iconst 5, 1), (14, .newarray .int, 2), (16, .putfield 15, 3), (19, .aload_n 0, 1), (20, .bipush 6, 2), (22, .newarray .int, 2), (24, .putfield 18, 3), (27, .aload_n 0, 1), (28, .sipush 343, 3), (31, .newarray .int, 2), (33, .putfield 21, 3), (36, .aload_n 0, 1), (37, .sipush 343, 3), (40, .newarray .int, 2), (42, .putfield 24, 3), (45, .aload_n 0, 1), (46, .iconst 5, 1), (47, .newarray .int, 2), (49, .putfield 27, 3), (52, .return_, 1)]
def zq_L5 : List (Nat × Instr × Nat) := [(0, .aload_n 0, 1), (1, .invokespecial 3, 3), (4, .aload_n 0, 1), (5, .bipush 6, 2), (7, .newarray .int, 2), (9, .putfield 9, 3), (12, .aload_n 0, 1), (13, .bipush 6, 2), (15, .newarray .int, 2), (17, .putfield 15, 3), (20, .aload_n 0, 1), (21, .bipush 6, 2), (23, .newarray .int, 2), (25, .putfield 18, 3), (28, .aload_n 0, 1), (29, .bipush 64, 2), (31, .newarray .int, 2), (33, .putfield 21, 3), (36, .aload_n 0, 1), (37, .bipush 64, 2), (39, .newarray .int, 2), (41, .putfield 24, 3), (44, .return_, 1)]
def zq_L6 : List (Nat × Instr × Nat) := [(0, .aload_n 0, 1), (1, .invokespecial 3, 3), (4, .aload_n 0, 1), (5, .bipush 6, 2), (7, .newarray .int, 2), (9, .putfield 9, 3), (12, .return_, 1)]
def zq_L7 : List (Nat × Instr × Nat) := [(0, .aload_n 0, 1), (1, .invokespecial 3, 3), (4, .aload_n 0, 1), (5, .bipush 10, 2), (7, .putfield 9, 3), (10, .aload_n 0, 1), (11, .iconst 5, 1), (12, .putfield 15, 3), (15, .aload_n 0, 1), (16, .bipush 20, 2), (18, .putfield 18, 3), (21, .aload_n 0, 1), (22, .bipush 13, 2), (24, .putfield 21, 3), (27, .aload_n 0, 1), (28, .iconst 3, 1), (29, .putfield 24, 3), (32, .aload_n 0, 1), (33, .bipush 6, 2), (35, .newarray .int, 2), (37, .putfield 27, 3), (40, .aload_n 0, 1), (41, .bipush 6, 2), (43, .newarray .int, 2), (45, .putfield 31, 3), (48, .aload_n 0, 1), (49, .bipush 6, 2), (51, .newarray .int, 2), (53, .putfield 34, 3), (56, .aload_n 0, 1), (57, .bipush 6, 2), (59, .newarray .int, 2), (61, .putfield 37, 3), (64, .aload_n 0, 1), (65, .bipush 6, 2), (67, .newarray .int, 2), (69, .putfield 40, 3), (72, .aload_n 0, 1), (73, .bipush 6, 2), (75, .newarray .int, 2), (77, .putfield 43, 3), (80, .aload_n 0, 1), (81, .bipush 6, 2), (83, .newarray .long, 2), (85, .putfield 46, 3), (88, .aload_n 0, 1), (89, .bipush 6, 2), (91, .newarray .long, 2), (93, .putfield 50, 3), (96, .aload_n 0, 1), (97, .bipush 36, 2), (99, .newarray .int, 2), (101, .putfield 53, 3), (104, .aload_n 0, 1), (105, .bipush 36, 2), (107, .newarray .int, 2), (109, .putfield 56, 3), (112, .aload_n 0, 1), (113, .new 59, 3), (116, .dup, 1), (117, .invokespecial 61, 3), (120, .putfield 62, 3), (123, .return_, 1)]
def zq_L8 : List (Nat × Instr × Nat) := [(0, .aload_n 0, 1), (1, .invokespecial 3, 3), (4, .aload_n 0, 1), (5, .sipush 1000, 3), (8, .newarray .int, 2), (10, .putfield 9, 3), (13, .aload_n 0, 1), (14, .iconst 3, 1), (15, .newarray .int, 2), (17, .putfield 15, 3), (20, .aload_n 0, 1), (21, .iconst 3, 1), (22, .newarray .int, 2), (24, .putfield 18, 3), (27, .aload_n 0, 1), (28, .bipush 32, 2), (30, .newarray .int, 2), (32, .putfield 21, 3), (35, .aload_n 0, 1), (36, .iconst 4, 1), (37, .newarray .int, 2), (39, .putfield 24, 3), (42, .return_, 1)]
def zq_L9 : List (Nat × Instr × Nat) := [(0, .aload_n 0, 1), (1, .invokespecial 3, 3), (4, .aload_n 0, 1), (5, .bipush 24, 2), (7, .newarray .int, 2), (9, .putfield 9, 3), (12, .aload_n 0, 1), (13, .bipush 24, 2), (15, .newarray .int, 2), (17, .putfield 15, 3), (20, .aload_n 0, 1), (21, .bipush 24, 2), (23, .newarray .int, 2), (25, .putfield 18, 3), (28, .aload_n 0, 1), (29, .bipush 24, 2), (31, .newarray .int, 2), (33, .putfield 21, 3), (36, .return_, 1)]
def zq_L10 : List (Nat × Instr × Nat) := [(0, .iconst 0, 1), (1, .istore_n 2, 1), (2, .iload_n 2, 1), (3, .bipush 6, 2), (5, .if_icmp .ge 66, 3), (8, .aload_n 0, 1), (9, .getfield 9, 3), (12, .iload_n 2, 1), (13, .iload_n 2, 1), (14, .aload_n 1, 1), (15, .getfield 18, 3), (18, .if_icmp .ge 15, 3), (21, .iload_n 2, 1), (22, .aload_n 1, 1), (23, .getfield 24, 3), (26, .if_icmp .ge 7, 3), (29, .iload_n 2, 1), (30, .goto 4, 3), (33, .iconst (-1), 1), (34, .invokestatic 27, 3), (37, .aload_n 0, 1), (38, .getfield 15, 3), (41, .iload_n 2, 1), (42, .iload_n 2, 1), (43, .aload_n 1, 1), (44, .getfield 24, 3), (47, .if_icmp .ge 14, 3), (50, .aload_n 1, 1), (51, .getfield 31, 3), (54, .iload_n 2, 1), (55, .invokestatic 32, 3), (58, .goto 4, 3), (61, .iconst 0, 1), (62, .invokestatic 27, 3), (65, .iinc 2 1, 3), (68, .goto (-66), 3), (71, .aload_n 0, 1), (72, .iconst 0, 1), (73, .putfield 36, 3), (76, .aload_n 0, 1), (77, .aload_n 1, 1), (78, .getfield 39, 3), (81, .putfield 42, 3), (84, .aload_n 0, 1), (85, .iconst 0, 1), (86, .putfield 45, 3), (89, .aload_n 0, 1), (90, .iconst 0, 1), (91, .putfield 48, 3), (94, .return_, 1)]
def zq_L11 : List (Nat × Instr × Nat) := [(0, .iload_n 1, 1), (1, .ifCond .lt 13, 3), (4, .iload_n 1, 1), (5, .aload_n 0, 1), (6, .arraylength, 1), (7, .if_icmp .ge 7, 3), (10, .aload_n 0, 1), (11, .iload_n 1, 1), (12, .iload_n 2, 1), (13, .iastore, 1), (14, .return_, 1)]
def zq_L12 : List (Nat × Instr × Nat) := [(0, .iload_n 1, 1), (1, .ifCond .lt 15, 3), (4, .iload_n 1, 1), (5, .aload_n 0, 1), (6, .arraylength, 1), (7, .if_icmp .ge 9, 3), (10, .aload_n 0, 1), (11, .iload_n 1, 1), (12, .iaload, 1), (13, .goto 4, 3), (16, .iconst 0, 1), (17, .ireturn, 1)]
def zq_L13 : List (Nat × Instr × Nat) := [(0, .aload_n 0, 1), (1, .getfield 10, 3), (4, .lload_n 1, 1), (5, .invokevirtual 93, 3), (8, .aload_n 0, 1), (9, .getfield 10, 3), (12, .lload_n 3, 1), (13, .invokevirtual 93, 3), (16, .aload_n 0, 1), (17, .getfield 10, 3), (20, .lload 5, 2), (22, .invokevirtual 93, 3), (25, .aload_n 0, 1), (26, .getfield 10, 3), (29, .getfield 97, 3), (32, .ireturn, 1)]
def zq_L14 : List (Nat × Instr × Nat) := [(0, .bipush 56, 2), (2, .istore_n 3, 1), (3, .iload_n 3, 1), (4, .ifCond .lt 81, 3), (7, .lload_n 1, 1), (8, .iload_n 3, 1), (9, .lshr, 1), (10, .ldc2_w 15, 3), (13, .land, 1), (14, .l2i, 1), (15, .istore 4, 2), (17, .iload 4, 2), (19, .bipush 10, 2), (21, .if_icmp .eq 17, 3), (24, .iload 4, 2), (26, .bipush 32, 2), (28, .if_icmp .lt 51, 3), (31, .iload 4, 2), (33, .bipush 126, 2), (35, .if_icmp .gt 44, 3), (38, .aload_n 0, 1), (39, .getfield 17, 3), (42, .ifCond .lt 37, 3), (45, .aload_n 0, 1), (46, .getfield 17, 3), (49, .aload_n 0, 1), (50, .getfield 9, 3), (53, .arraylength, 1), (54, .if_icmp .ge 25, 3), (57, .aload_n 0, 1), (58, .getfield 9, 3), (61, .aload_n 0, 1), (62, .getfield 17, 3), (65, .iload 4, 2), (67, .i2c, 1), (68, .castore, 1), (69, .aload_n 0, 1), (70, .dup, 1), (71, .getfield 17, 3), (74, .iconst 1, 1), (75, .iadd, 1), (76, .putfield 17, 3), (79, .iinc 3 (-8), 3), (82, .goto (-79), 3), (85, .return_, 1)]
def zq_L15 : List (Nat × Instr × Nat) := [(0, .aload_n 0, 1), (1, .getfield 76, 3), (4, .aload_n 0, 1), (5, .getfield 10, 3), (8, .invokevirtual 101, 3), (11, .istore_n 1, 1), (12, .iload_n 1, 1), (13, .ifCond .eq 5, 3), (16, .iload_n 1, 1), (17, .ireturn, 1), (18, .aload_n 0, 1), (19, .getfield 76, 3), (22, .astore_n 2, 1), (23, .aload_n 0, 1), (24, .aload_n 0, 1), (25, .getfield 72, 3), (28, .putfield 76, 3), (31, .aload_n 0, 1), (32, .aload_n 2, 1), (33, .putfield 72, 3), (36, .aload_n 0, 1), (37, .getfield 19, 3), (40, .aload_n 0, 1), (41, .getfield 72, 3), (44, .invokevirtual 89, 3), (47, .aload_n 0, 1), (48, .getfield 29, 3), (51, .invokevirtual 105, 3), (54, .aload_n 0, 1), (55, .getfield 82, 3), (58, .iconst 0, 1), (59, .putfield 108, 3), (62, .aload_n 0, 1), (63, .getfield 36, 3), (66, .iconst 0, 1), (67, .putfield 109, 3), (70, .aload_n 0, 1), (71, .iconst 0, 1), (72, .putfield 113, 3), (75, .aload_n 0, 1), (76, .iconst 0, 1), (77, .putfield 116, 3), (80, .iconst 0, 1), (81, .ireturn, 1)]
def zq_L16 : List (Nat × Instr × Nat) := [(0, .aload_n 0, 1), (1, .invokevirtual 78, 3), (4, .aload_n 1, 1), (5, .invokevirtual 79, 3), (8, .iconst 1, 1), (9, .istore_n 2, 1), (10, .sipush 1000, 3), (13, .istore_n 3, 1), (14, .iload_n 3, 1), (15, .ifCond .le 26, 3), (18, .iload_n 2, 1), (19, .ifCond .eq 22, 3), (22, .aload_n 1, 1), (23, .getfield 84, 3), (26, .ifCond .eq 15, 3), (29, .aload_n 0, 1), (30, .aload_n 1, 1), (31, .invokevirtual 87, 3), (34, .istore_n 2, 1), (35, .iinc 3 (-1), 3), (38, .goto (-24), 3), (41, .aload_n 0, 1), (42, .invokevirtual 91, 3), (45, .aload_n 1, 1), (46, .invokevirtual 94, 3), (49, .ireturn, 1)]
def zq_L17 : List (Nat × Instr × Nat) := [(0, .aload_n 0, 1), (1, .iconst 0, 1), (2, .putfield 66, 3), (5, .aload_n 0, 1), (6, .iconst 0, 1), (7, .putfield 69, 3), (10, .aload_n 0, 1), (11, .bipush 10, 2), (13, .putfield 9, 3), (16, .aload_n 0, 1), (17, .iconst 5, 1), (18, .putfield 15, 3), (21, .aload_n 0, 1), (22, .bipush 20, 2), (24, .putfield 18, 3), (27, .aload_n 0, 1), (28, .bipush 13, 2), (30, .putfield 21, 3), (33, .aload_n 0, 1), (34, .iconst 3, 1), (35, .putfield 24, 3), (38, .aload_n 0, 1), (39, .iconst 0, 1), (40, .putfield 72, 3), (43, .aload_n 0, 1), (44, .getfield 62, 3), (47, .invokevirtual 75, 3), (50, .return_, 1)]
def zq_L18 : List (Nat × Instr × Nat) := [(0, .aload_n 0, 1), (1, .iconst 0, 1), (2, .putfield 27, 3), (5, .iconst 0, 1), (6, .istore_n 1, 1), (7, .iload_n 1, 1), (8, .iconst 3, 1), (9, .if_icmp .ge 27, 3), (12, .aload_n 0, 1), (13, .getfield 15, 3), (16, .iload_n 1, 1), (17, .iconst 0, 1), (18, .invokestatic 31, 3), (21, .aload_n 0, 1), (22, .getfield 18, 3), (25, .iload_n 1, 1), (26, .iconst 0, 1), (27, .invokestatic 31, 3), (30, .iinc 1 1, 3), (33, .goto (-26), 3), (36, .return_, 1)]
def zq_L19 : List (Nat × Instr × Nat) := [(0, .aload_n 0, 1), (1, .iconst 0, 1), (2, .putfield 21, 3), (5, .aload_n 0, 1), (6, .iconst 0, 1), (7, .putfield 24, 3), (10, .aload_n 0, 1), (11, .invokevirtual 27, 3), (14, .return_, 1)]
def zq_L20 : List (Nat × Instr × Nat) := [(0, .aload_n 0, 1), (1, .getfield 21, 3), (4, .istore_n 1, 1), (5, .iload_n 1, 1), (6, .aload_n 0, 1), (7, .getfield 17, 3), (10, .if_icmp .ge 21, 3), (13, .aload_n 0, 1), (14, .iload_n 1, 1), (15, .invokevirtual 30, 3), (18, .invokestatic 34, 3), (21, .iconst 4, 1), (22, .if_icmp .ne 9, 3), (25, .iinc 1 1, 3), (28, .goto (-23), 3), (31, .aload_n 0, 1), (32, .iload_n 1, 1), (33, .putfield 38, 3), (36, .aload_n 0, 1), (37, .aload_n 0, 1), (38, .iload_n 1, 1), (39, .invokevirtual 30, 3), (42, .putfield 41, 3), (45, .aload_n 0, 1), (46, .iload_n 1, 1), (47, .aload_n 0, 1), (48, .getfield 17, 3), (51, .if_icmp .ge 13, 3), (54, .aload_n 0, 1), (55, .getfield 41, 3), (58, .invokestatic 34, 3), (61, .goto 4, 3), (64, .iconst 0, 1), (65, .putfield 45, 3), (68, .aload_n 0, 1), (69, .aconst_null, 1), (70, .putfield 48, 3), (73, .aload_n 0, 1), (74, .lconst 0, 1), (75, .putfield 52, 3), (78, .aload_n 0, 1), (79, .iload_n 1, 1), (80, .iconst 1, 1), (81, .iadd, 1), (82, .putfield 21, 3), (85, .aload_n 0, 1), (86, .getfield 45, 3), (89, .iconst 1, 1), (90, .if_icmp .eq 12, 3), (93, .aload_n 0, 1), (94, .getfield 45, 3), (97, .iconst 2, 1), (98, .if_icmp .eq 4, 3), (101, .return_, 1), (102, .aload_n 0, 1), (103, .getfield 45, 3), (106, .iconst 1, 1), (107, .if_icmp .ne 8, 3), (110, .bipush 27, 2), (112, .goto 5, 3), (115, .bipush 10, 2), (117, .istore_n 2, 1), (118, .aload_n 0, 1), (119, .getfield 45, 3), (122, .iconst 1, 1), (123, .if_icmp .ne 8, 3), (126, .bipush 96, 2), (128, .goto 5, 3), (131, .bipush 48, 2), (133, .istore_n 3, 1), (134, .iload_n 1, 1), (135, .aload_n 0, 1), (136, .getfield 17, 3), (139, .if_icmp .ge 44, 3), (142, .aload_n 0, 1), (143, .iload_n 1, 1), (144, .invokevirtual 30, 3), (147, .invokestatic 34, 3), (150, .aload_n 0, 1), (151, .getfield 45, 3), (154, .if_icmp .ne 29, 3), (157, .aload_n 0, 1), (158, .aload_n 0, 1), (159, .getfield 52, 3), (162, .iload_n 2, 1), (163, .i2l, 1), (164, .lmul, 1), (165, .aload_n 0, 1), (166, .iload_n 1, 1), (167, .invokevirtual 30, 3), (170, .iload_n 3, 1), (171, .isub, 1), (172, .i2l, 1), (173, .ladd, 1), (174, .putfield 52, 3), (177, .iinc 1 1, 3), (180, .goto (-46), 3), (183, .aload_n 0, 1), (184, .iload_n 1, 1), (185, .putfield 21, 3), (188, .iload_n 1, 1), (189, .aload_n 0, 1), (190, .getfield 38, 3), (193, .isub, 1), (194, .aload_n 0, 1), (195, .getfield 45, 3), (198, .iconst 1, 1), (199, .if_icmp .ne 8, 3), (202, .bipush 8, 2), (204, .goto 4, 3), (207, .iconst 4, 1), (208, .if_icmp .le 11, 3), (211, .aload_n 0, 1), (212, .iconst 5, 1), (213, .putfield 45, 3), (216, .goto 22, 3), (219, .aload_n 0, 1), (220, .getfield 45, 3), (223, .iconst 1, 1), (224, .if_icmp .ne 14, 3), (227, .aload_n 0, 1), (228, .aload_n 0, 1), (229, .getfield 52, 3), (232, .invokestatic 56, 3), (235, .putfield 48, 3), (238, .return_, 1)]
def zq_L21 : List (Nat × Instr × Nat) := [(0, .iload_n 1, 1), (1, .ifCond .lt 29, 3), (4, .iload_n 1, 1), (5, .aload_n 0, 1), (6, .getfield 17, 3), (9, .if_icmp .ge 21, 3), (12, .iload_n 1, 1), (13, .aload_n 0, 1), (14, .getfield 9, 3), (17, .arraylength, 1), (18, .if_icmp .ge 12, 3), (21, .aload_n 0, 1), (22, .getfield 9, 3), (25, .iload_n 1, 1), (26, .caload, 1), (27, .goto 4, 3), (30, .iconst 0, 1), (31, .ireturn, 1)]
def zq_L22 : List (Nat × Instr × Nat) := [(0, .iload_n 0, 1), (1, .bipush 97, 2), (3, .if_icmp .lt 11, 3), (6, .iload_n 0, 1), (7, .bipush 122, 2), (9, .if_icmp .gt 5, 3), (12, .iconst 1, 1), (13, .ireturn, 1), (14, .iload_n 0, 1), (15, .bipush 48, 2), (17, .if_icmp .lt 11, 3), (20, .iload_n 0, 1), (21, .bipush 57, 2), (23, .if_icmp .gt 5, 3), (26, .iconst 2, 1), (27, .ireturn, 1), (28, .iload_n 0, 1), (29, .bipush 32, 2), (31, .if_icmp .eq 9, 3), (34, .iload_n 0, 1), (35, .bipush 10, 2), (37, .if_icmp .ne 5, 3), (40, .iconst 4, 1), (41, .ireturn, 1), (42, .iload_n 0, 1), (43, .bipush 40, 2), (45, .if_icmp .eq 45, 3), (48, .iload_n 0, 1), (49, .bipush 41, 2), (51, .if_icmp .eq 39, 3), (54, .iload_n 0, 1), (55, .bipush 60, 2), (57, .if_icmp .eq 33, 3), (60, .iload_n 0, 1), (61, .bipush 61, 2), (63, .if_icmp .eq 27, 3), (66, .iload_n 0, 1), (67, .bipush 43, 2), (69, .if_icmp .eq 21, 3), (72, .iload_n 0, 1), (73, .bipush 45, 2), (75, .if_icmp .eq 15, 3), (78, .iload_n 0, 1), (79, .bipush 42, 2), (81, .if_icmp .eq 9, 3), (84, .iload_n 0, 1), (85, .bipush 59, 2), (87, .if_icmp .ne 7, 3), (90, .iconst 1, 1), (91, .goto 4, 3), (94, .iconst 0, 1), (95, .istore_n 1, 1), (96, .iload_n 1, 1), (97, .ifCond .eq 7, 3), (100, .iconst 3, 1), (101, .goto 4, 3), (104, .iconst 5, 1), (105, .ireturn, 1)]
def zq_L23 : List (Nat × Instr × Nat) := [(0, .iconst 0, 1), (1, .istore_n 2, 1), (2, .iload_n 2, 1), (3, .getstatic 60, 3), (6, .arraylength, 1), (7, .if_icmp .ge 28, 3), (10, .getstatic 60, 3), (13, .iload_n 2, 1), (14, .aaload, 1), (15, .getfield 64, 3), (18, .lload_n 0, 1), (19, .lcmp, 1), (20, .ifCond .ne 9, 3), (23, .getstatic 60, 3), (26, .iload_n 2, 1), (27, .aaload, 1), (28, .areturn, 1), (29, .iinc 2 1, 3), (32, .goto (-30), 3), (35, .aconst_null, 1), (36, .areturn, 1)]
def zq_L24 : List (Nat × Instr × Nat) := [(0, .aload_n 1, 1), (1, .getfield 98, 3), (4, .getstatic 102, 3), (7, .if_acmp .ne 26, 3), (10, .aload_n 0, 1), (11, .aload_n 1, 1), (12, .invokevirtual 107, 3), (15, .ifCond .eq 16, 3), (18, .aload_n 1, 1), (19, .bipush 59, 2), (21, .invokevirtual 110, 3), (24, .ifCond .eq 7, 3), (27, .iconst 1, 1), (28, .goto 4, 3), (31, .iconst 0, 1), (32, .ireturn, 1), (33, .aload_n 1, 1), (34, .getfield 98, 3), (37, .getstatic 114, 3), (40, .if_acmp .ne 26, 3), (43, .aload_n 0, 1), (44, .aload_n 1, 1), (45, .invokevirtual 117, 3), (48, .ifCond .eq 16, 3), (51, .aload_n 1, 1), (52, .bipush 59, 2), (54, .invokevirtual 110, 3), (57, .ifCond .eq 7, 3), (60, .iconst 1, 1), (61, .goto 4, 3), (64, .iconst 0, 1), (65, .ireturn, 1), (66, .aload_n 1, 1), (67, .getfield 98, 3), (70, .astore_n 2, 1), (71, .aload_n 1, 1), (72, .iconst 1, 1), (73, .invokevirtual 120, 3), (76, .istore_n 3, 1), (77, .iload_n 3, 1), (78, .iconst (-1), 1), (79, .if_icmp .ne 9, 3), (82, .aload_n 1, 1), (83, .iconst 1, 1), (84, .invokevirtual 124, 3), (87, .ireturn, 1), (88, .aload_n 0, 1), (89, .getfield 72, 3), (92, .iload_n 3, 1), (93, .ishr, 1), (94, .iconst 1, 1), (95, .iand, 1), (96, .iconst 1, 1), (97, .if_icmp .ne 9, 3), (100, .aload_n 1, 1), (101, .iconst 3, 1), (102, .invokevirtual 124, 3), (105, .ireturn, 1), (106, .aload_n 0, 1), (107, .dup, 1), (108, .getfield 72, 3), (111, .iconst 1, 1), (112, .iload_n 3, 1), (113, .ishl, 1), (114, .ior, 1), (115, .putfield 72, 3), (118, .aload_n 1, 1), (119, .invokevirtual 128, 3), (122, .iload_n 3, 1), (123, .iconst 3, 1), (124, .if_icmp .ge 15, 3), (127, .aload_n 0, 1), (128, .getfield 62, 3), (131, .aload_n 1, 1), (132, .iload_n 3, 1), (133, .invokevirtual 131, 3), (136, .goto 9, 3), (139, .aload_n 0, 1), (140, .aload_n 1, 1), (141, .aload_n 2, 1), (142, .invokevirtual 135, 3), (145, .istore 4, 2), (147, .iload 4, 2), (149, .ifCond .eq 16, 3), (152, .aload_n 1, 1), (153, .bipush 59, 2), (155, .invokevirtual 110, 3), (158, .ifCond .eq 7, 3), (161, .iconst 1, 1), (162, .goto 4, 3), (165, .iconst 0, 1), (166, .ireturn, 1)]
def zq_L25 : List (Nat × Instr × Nat) := [(0, .aload_n 0, 1), (1, .getfield 66, 3), (4, .ifCond .lt 12, 3), (7, .aload_n 0, 1), (8, .getfield 66, 3), (11, .bipush 6, 2), (13, .if_icmp .lt 9, 3), (16, .aload_n 1, 1), (17, .iconst 5, 1), (18, .invokevirtual 124, 3), (21, .ireturn, 1), (22, .aload_n 1, 1), (23, .invokevirtual 128, 3), (26, .aload_n 1, 1), (27, .getfield 165, 3), (30, .lstore_n 2, 1), (31, .aload_n 0, 1), (32, .aload_n 1, 1), (33, .invokevirtual 169, 3), (36, .ifCond .eq 11, 3), (39, .aload_n 1, 1), (40, .iconst 4, 1), (41, .invokevirtual 172, 3), (44, .ifCond .ne 5, 3), (47, .iconst 0, 1), (48, .ireturn, 1), (49, .aload_n 0, 1), (50, .getfield 27, 3), (53, .aload_n 0, 1), (54, .getfield 66, 3), (57, .aload_n 1, 1), (58, .getfield 155, 3), (61, .invokestatic 175, 3), (64, .aload_n 1, 1), (65, .getstatic 179, 3), (68, .invokevirtual 161, 3), (71, .ifCond .eq 13, 3), (74, .aload_n 1, 1), (75, .iconst 1, 1), (76, .bipush 9, 2), (78, .invokevirtual 151, 3), (81, .ifCond .ne 5, 3), (84, .iconst 0, 1), (85, .ireturn, 1), (86, .aload_n 0, 1), (87, .getfield 31, 3), (90, .aload_n 0, 1), (91, .getfield 66, 3), (94, .aload_n 1, 1), (95, .getfield 155, 3), (98, .invokestatic 175, 3), (101, .aload_n 0, 1), (102, .getfield 34, 3), (105, .aload_n 0, 1), (106, .getfield 66, 3), (109, .iconst (-1), 1), (110, .invokestatic 175, 3), (113, .aload_n 1, 1), (114, .getfield 98, 3), (117, .getstatic 182, 3), (120, .if_acmp .ne 13, 3), (123, .aload_n 0, 1), (124, .aload_n 1, 1), (125, .invokevirtual 185, 3), (128, .ifCond .ne 5, 3), (131, .iconst 0, 1), (132, .ireturn, 1), (133, .aload_n 0, 1), (134, .getfield 46, 3), (137, .aload_n 0, 1), (138, .getfield 66, 3), (141, .lload_n 2, 1), (142, .lastore, 1), (143, .aload_n 0, 1), (144, .dup, 1), (145, .getfield 66, 3), (148, .iconst 1, 1), (149, .iadd, 1), (150, .putfield 66, 3), (153, .iconst 1, 1), (154, .ireturn, 1)]
def zq_L26 : List (Nat × Instr × Nat) := [(0, .aload_n 0, 1), (1, .iload_n 1, 1), (2, .bipush 16, 2), (4, .aload_n 0, 1), (5, .getfield 38, 3), (8, .imul, 1), (9, .iadd, 1), (10, .putfield 24, 3), (13, .iconst 0, 1), (14, .ireturn, 1)]
def zq_L27 : List (Nat × Instr × Nat) := [(0, .aload_n 1, 1), (1, .invokevirtual 188, 3), (4, .ifCond .ne 9, 3), (7, .aload_n 1, 1), (8, .iconst 1, 1), (9, .invokevirtual 124, 3), (12, .ireturn, 1), (13, .aload_n 0, 1), (14, .getfield 46, 3), (17, .aload_n 0, 1), (18, .getfield 66, 3), (21, .aload_n 1, 1), (22, .getfield 165, 3), (25, .invokestatic 192, 3), (28, .iconst (-1), 1), (29, .if_icmp .ne 15, 3), (32, .aload_n 0, 1), (33, .aload_n 1, 1), (34, .getfield 165, 3), (37, .invokevirtual 205, 3), (40, .iconst (-1), 1), (41, .if_icmp .eq 9, 3), (44, .aload_n 1, 1), (45, .iconst 3, 1), (46, .invokevirtual 124, 3), (49, .ireturn, 1), (50, .aload_n 1, 1), (51, .invokevirtual 128, 3), (54, .iconst 1, 1), (55, .ireturn, 1)]
def zq_L28 : List (Nat × Instr × Nat) := [(0, .aload_n 0, 1), (1, .getfield 45, 3), (4, .iconst 1, 1), (5, .if_icmp .ne 37, 3), (8, .aload_n 0, 1), (9, .getfield 48, 3), (12, .ifnull 26, 3), (15, .aload_n 0, 1), (16, .getfield 48, 3), (19, .getfield 67, 3), (22, .iconst 5, 1), (23, .if_icmp .eq 15, 3), (26, .aload_n 0, 1), (27, .getfield 48, 3), (30, .getfield 67, 3), (33, .bipush 6, 2), (35, .if_icmp .ne 7, 3), (38, .iconst 1, 1), (39, .goto 4, 3), (42, .iconst 0, 1), (43, .ireturn, 1)]
def zq_L29 : List (Nat × Instr × Nat) := [(0, .iconst 0, 1), (1, .istore 4, 2), (3, .iload 4, 2), (5, .iload_n 1, 1), (6, .if_icmp .ge 28, 3), (9, .iload 4, 2), (11, .aload_n 0, 1), (12, .arraylength, 1), (13, .if_icmp .ge 21, 3), (16, .aload_n 0, 1), (17, .iload 4, 2), (19, .laload, 1), (20, .lload_n 2, 1), (21, .lcmp, 1), (22, .ifCond .ne 6, 3), (25, .iload 4, 2), (27, .ireturn, 1), (28, .iinc 4 1, 3), (31, .goto (-28), 3), (34, .iconst (-1), 1), (35, .ireturn, 1)]
def zq_L30 : List (Nat × Instr × Nat) := [(0, .aload_n 0, 1), (1, .getfield 50, 3), (4, .aload_n 0, 1), (5, .getfield 69, 3), (8, .lload_n 1, 1), (9, .invokestatic 192, 3), (12, .ireturn, 1)]
def zq_L31 : List (Nat × Instr × Nat) := [(0, .aload_n 0, 1), (1, .aload_n 0, 1), (2, .iload_n 1, 1), (3, .invokevirtual 81, 3), (6, .putfield 84, 3), (9, .aload_n 0, 1), (10, .getfield 84, 3), (13, .iconst (-1), 1), (14, .if_icmp .ne 9, 3), (17, .aload_n 0, 1), (18, .iconst 1, 1), (19, .invokevirtual 77, 3), (22, .ireturn, 1), (23, .aload_n 0, 1), (24, .invokevirtual 27, 3), (27, .iconst 1, 1), (28, .ireturn, 1)]
def zq_L32 : List (Nat × Instr × Nat) := [(0, .aload_n 0, 1), (1, .getfield 48, 3), (4, .ifnull 24, 3), (7, .aload_n 0, 1), (8, .getfield 48, 3), (11, .getfield 67, 3), (14, .iload_n 1, 1), (15, .if_icmp .ne 13, 3), (18, .aload_n 0, 1), (19, .getfield 48, 3), (22, .getfield 70, 3), (25, .goto 4, 3), (28, .iconst (-1), 1), (29, .ireturn, 1)]
def zq_L33 : List (Nat × Instr × Nat) := [(0, .aload_n 0, 1), (1, .getfield 48, 3), (4, .aload_n 1, 1), (5, .if_acmp .eq 9, 3), (8, .aload_n 0, 1), (9, .iconst 1, 1), (10, .invokevirtual 77, 3), (13, .ireturn, 1), (14, .aload_n 0, 1), (15, .invokevirtual 27, 3), (18, .iconst 1, 1), (19, .ireturn, 1)]
def zq_L34 : List (Nat × Instr × Nat) := [(0, .aload_n 0, 1), (1, .getfield 45, 3), (4, .iconst 2, 1), (5, .if_icmp .eq 9, 3), (8, .aload_n 0, 1), (9, .iconst 1, 1), (10, .invokevirtual 77, 3), (13, .ireturn, 1), (14, .aload_n 0, 1), (15, .aload_n 0, 1), (16, .getfield 52, 3), (19, .l2i, 1), (20, .putfield 84, 3), (23, .aload_n 0, 1), (24, .getfield 84, 3), (27, .iload_n 1, 1), (28, .iload_n 2, 1), (29, .invokestatic 87, 3), (32, .ifCond .ne 9, 3), (35, .aload_n 0, 1), (36, .iconst 4, 1), (37, .invokevirtual 77, 3), (40, .ireturn, 1), (41, .aload_n 0, 1), (42, .invokevirtual 27, 3), (45, .iconst 1, 1), (46, .ireturn, 1)]
def zq_L35 : List (Nat × Instr × Nat) := [(0, .iload_n 0, 1), (1, .iload_n 1, 1), (2, .if_icmp .lt 12, 3), (5, .iload_n 0, 1), (6, .iload_n 2, 1), (7, .if_icmp .gt 7, 3), (10, .iconst 1, 1), (11, .goto 4, 3), (14, .iconst 0, 1), (15, .ireturn, 1)]
def zq_L36 : List (Nat × Instr × Nat) := [(0, .aload_n 1, 1), (1, .invokevirtual 128, 3), (4, .aload_n 1, 1), (5, .invokevirtual 188, 3), (8, .ifCond .ne 9, 3), (11, .aload_n 1, 1), (12, .iconst 1, 1), (13, .invokevirtual 124, 3), (16, .ireturn, 1), (17, .aload_n 0, 1), (18, .getfield 46, 3), (21, .aload_n 0, 1), (22, .getfield 66, 3), (25, .aload_n 1, 1), (26, .getfield 165, 3), (29, .invokestatic 192, 3), (32, .istore_n 2, 1), (33, .iload_n 2, 1), (34, .iconst (-1), 1), (35, .if_icmp .ne 9, 3), (38, .aload_n 1, 1), (39, .iconst 2, 1), (40, .invokevirtual 124, 3), (43, .ireturn, 1), (44, .aload_n 0, 1), (45, .getfield 34, 3), (48, .aload_n 0, 1), (49, .getfield 66, 3), (52, .iload_n 2, 1), (53, .invokestatic 175, 3), (56, .aload_n 1, 1), (57, .invokevirtual 128, 3), (60, .iconst 1, 1), (61, .ireturn, 1)]
def zq_L37 : List (Nat × Instr × Nat) := [(0, .aload_n 0, 1), (1, .iload_n 1, 1), (2, .invokevirtual 73, 3), (5, .ifCond .ne 9, 3), (8, .aload_n 0, 1), (9, .iconst 1, 1), (10, .invokevirtual 77, 3), (13, .ireturn, 1), (14, .aload_n 0, 1), (15, .invokevirtual 27, 3), (18, .iconst 1, 1), (19, .ireturn, 1)]
def zq_L38 : List (Nat × Instr × Nat) := [(0, .aload_n 0, 1), (1, .getfield 45, 3), (4, .iconst 3, 1), (5, .if_icmp .ne 15, 3), (8, .aload_n 0, 1), (9, .getfield 41, 3), (12, .iload_n 1, 1), (13, .if_icmp .ne 7, 3), (16, .iconst 1, 1), (17, .goto 4, 3), (20, .iconst 0, 1), (21, .ireturn, 1)]
def zq_L39 : List (Nat × Instr × Nat) := [(0, .aload_n 0, 1), (1, .getfield 69, 3), (4, .ifCond .lt 12, 3), (7, .aload_n 0, 1), (8, .getfield 69, 3), (11, .bipush 6, 2), (13, .if_icmp .lt 9, 3), (16, .aload_n 1, 1), (17, .iconst 5, 1), (18, .invokevirtual 124, 3), (21, .ireturn, 1), (22, .aload_n 1, 1), (23, .invokevirtual 128, 3), (26, .aload_n 1, 1), (27, .getfield 165, 3), (30, .lstore_n 2, 1), (31, .aload_n 0, 1), (32, .aload_n 1, 1), (33, .invokevirtual 169, 3), (36, .ifCond .eq 23, 3), (39, .aload_n 1, 1), (40, .getstatic 196, 3), (43, .invokevirtual 161, 3), (46, .ifCond .eq 13, 3), (49, .aload_n 1, 1), (50, .iconst 0, 1), (51, .bipush 9, 2), (53, .invokevirtual 151, 3), (56, .ifCond .ne 5, 3), (59, .iconst 0, 1), (60, .ireturn, 1), (61, .aload_n 0, 1), (62, .getfield 37, 3), (65, .aload_n 0, 1), (66, .getfield 69, 3), (69, .aload_n 1, 1), (70, .getfield 155, 3), (73, .invokestatic 175, 3), (76, .aload_n 1, 1), (77, .getstatic 199, 3), (80, .invokevirtual 161, 3), (83, .ifCond .eq 13, 3), (86, .aload_n 1, 1), (87, .iconst 0, 1), (88, .bipush 9, 2), (90, .invokevirtual 151, 3), (93, .ifCond .ne 5, 3), (96, .iconst 0, 1), (97, .ireturn, 1), (98, .aload_n 0, 1), (99, .getfield 40, 3), (102, .aload_n 0, 1), (103, .getfield 69, 3), (106, .aload_n 1, 1), (107, .getfield 155, 3), (110, .invokestatic 175, 3), (113, .aload_n 1, 1), (114, .getstatic 202, 3), (117, .invokevirtual 161, 3), (120, .ifCond .eq 14, 3), (123, .aload_n 1, 1), (124, .iconst 0, 1), (125, .sipush 999, 3), (128, .invokevirtual 151, 3), (131, .ifCond .ne 5, 3), (134, .iconst 0, 1), (135, .ireturn, 1), (136, .aload_n 0, 1), (137, .getfield 43, 3), (140, .aload_n 0, 1), (141, .getfield 69, 3), (144, .aload_n 1, 1), (145, .getfield 155, 3), (148, .invokestatic 175, 3), (151, .aload_n 0, 1), (152, .getfield 50, 3), (155, .aload_n 0, 1), (156, .getfield 69, 3), (159, .lload_n 2, 1), (160, .lastore, 1), (161, .aload_n 0, 1), (162, .dup, 1), (163, .getfield 69, 3), (166, .iconst 1, 1), (167, .iadd, 1), (168, .putfield 69, 3), (171, .iconst 1, 1), (172, .ireturn, 1)]
def zq_L40 : List (Nat × Instr × Nat) := [(0, .aload_n 0, 1), (1, .getfield 15, 3), (4, .iload_n 2, 1), (5, .aload_n 0, 1), (6, .getfield 27, 3), (9, .invokestatic 31, 3), (12, .aload_n 0, 1), (13, .aload_n 1, 1), (14, .iload_n 2, 1), (15, .iconst 0, 1), (16, .invokevirtual 39, 3), (19, .istore_n 3, 1), (20, .aload_n 0, 1), (21, .getfield 18, 3), (24, .iload_n 2, 1), (25, .aload_n 0, 1), (26, .getfield 27, 3), (29, .invokestatic 31, 3), (32, .iload_n 3, 1), (33, .ireturn, 1)]
def zq_L41 : List (Nat × Instr × Nat) := [(0, .aload_n 0, 1), (1, .aload_n 1, 1), (2, .iload_n 2, 1), (3, .iload_n 3, 1), (4, .invokevirtual 43, 3), (7, .istore 4, 2), (9, .sipush 1000, 3), (12, .istore 5, 2), (14, .iload 5, 2), (16, .ifCond .le 74, 3), (19, .iload 4, 2), (21, .ifCond .eq 69, 3), (24, .aload_n 1, 1), (25, .getfield 46, 3), (28, .getstatic 52, 3), (31, .if_acmp .ne 8, 3), (34, .bipush (-7), 2), (36, .goto 5, 3), (39, .bipush (-8), 2), (41, .istore 6, 2), (43, .aload_n 1, 1), (44, .getfield 46, 3), (47, .getstatic 52, 3), (50, .if_acmp .eq 15, 3), (53, .aload_n 1, 1), (54, .getfield 46, 3), (57, .getstatic 57, 3), (60, .if_acmp .eq 5, 3), (63, .iconst 1, 1), (64, .ireturn, 1), (65, .aload_n 1, 1), (66, .invokevirtual 60, 3), (69, .aload_n 0, 1), (70, .aload_n 1, 1), (71, .iload_n 2, 1), (72, .iload_n 3, 1), (73, .invokevirtual 43, 3), (76, .istore 4, 2), (78, .aload_n 0, 1), (79, .iload 6, 2), (81, .invokevirtual 63, 3), (84, .iinc 5 (-1), 3), (87, .goto (-73), 3), (90, .iload 4, 2), (92, .ireturn, 1)]
def zq_L42 : List (Nat × Instr × Nat) := [(0, .aload_n 0, 1), (1, .aload_n 1, 1), (2, .iload_n 2, 1), (3, .iload_n 3, 1), (4, .invokevirtual 67, 3), (7, .ifCond .ne 5, 3), (10, .iconst 0, 1), (11, .ireturn, 1), (12, .aload_n 1, 1), (13, .bipush 60, 2), (15, .invokevirtual 70, 3), (18, .ifCond .ne 14, 3), (21, .aload_n 1, 1), (22, .bipush 61, 2), (24, .invokevirtual 70, 3), (27, .ifCond .ne 5, 3), (30, .iconst 1, 1), (31, .ireturn, 1), (32, .aload_n 1, 1), (33, .bipush 60, 2), (35, .invokevirtual 70, 3), (38, .ifCond .eq 8, 3), (41, .bipush (-4), 2), (43, .goto 5, 3), (46, .bipush (-5), 2), (48, .istore 4, 2), (50, .aload_n 1, 1), (51, .invokevirtual 60, 3), (54, .aload_n 0, 1), (55, .aload_n 1, 1), (56, .iload_n 2, 1), (57, .iload_n 3, 1), (58, .invokevirtual 67, 3), (61, .istore 5, 2), (63, .aload_n 0, 1), (64, .iload 4, 2), (66, .invokevirtual 63, 3), (69, .iload 5, 2), (71, .ireturn, 1)]
def zq_L43 : List (Nat × Instr × Nat) := [(0, .aload_n 0, 1), (1, .aload_n 1, 1), (2, .iload_n 2, 1), (3, .iload_n 3, 1), (4, .invokevirtual 74, 3), (7, .istore 4, 2), (9, .sipush 1000, 3), (12, .istore 5, 2), (14, .iload 5, 2), (16, .ifCond .le 70, 3), (19, .iload 4, 2), (21, .ifCond .eq 65, 3), (24, .aload_n 1, 1), (25, .bipush 43, 2), (27, .invokevirtual 70, 3), (30, .ifCond .eq 7, 3), (33, .iconst (-1), 1), (34, .goto 5, 3), (37, .bipush (-2), 2), (39, .istore 6, 2), (41, .aload_n 1, 1), (42, .bipush 43, 2), (44, .invokevirtual 70, 3), (47, .ifCond .ne 14, 3), (50, .aload_n 1, 1), (51, .bipush 45, 2), (53, .invokevirtual 70, 3), (56, .ifCond .ne 5, 3), (59, .iconst 1, 1), (60, .ireturn, 1), (61, .aload_n 1, 1), (62, .invokevirtual 60, 3), (65, .aload_n 0, 1), (66, .aload_n 1, 1), (67, .iload_n 2, 1), (68, .iload_n 3, 1), (69, .invokevirtual 74, 3), (72, .istore 4, 2), (74, .aload_n 0, 1), (75, .iload 6, 2), (77, .invokevirtual 63, 3), (80, .iinc 5 (-1), 3), (83, .goto (-69), 3), (86, .iload 4, 2), (88, .ireturn, 1)]
def zq_L44 : List (Nat × Instr × Nat) := [(0, .aload_n 0, 1), (1, .aload_n 1, 1), (2, .iload_n 2, 1), (3, .iload_n 3, 1), (4, .invokevirtual 77, 3), (7, .istore 4, 2), (9, .sipush 1000, 3), (12, .istore 5, 2), (14, .iload 5, 2), (16, .ifCond .le 42, 3), (19, .iload 4, 2), (21, .ifCond .eq 37, 3), (24, .aload_n 1, 1), (25, .bipush 42, 2), (27, .invokevirtual 70, 3), (30, .ifCond .eq 28, 3), (33, .aload_n 1, 1), (34, .invokevirtual 60, 3), (37, .aload_n 0, 1), (38, .aload_n 1, 1), (39, .iload_n 2, 1), (40, .iload_n 3, 1), (41, .invokevirtual 77, 3), (44, .istore 4, 2), (46, .aload_n 0, 1), (47, .bipush (-3), 2), (49, .invokevirtual 63, 3), (52, .iinc 5 (-1), 3), (55, .goto (-41), 3), (58, .iload 4, 2), (60, .ireturn, 1)]
def zq_L45 : List (Nat × Instr × Nat) := [(0, .aload_n 1, 1), (1, .iload_n 2, 1), (2, .iconst 2, 1), (3, .if_icmp .ne 8, 3), (6, .bipush 6, 2), (8, .goto 4, 3), (11, .iconst 5, 1), (12, .invokevirtual 80, 3), (15, .istore 4, 2), (17, .aload_n 1, 1), (18, .getfield 84, 3), (21, .iconst 2, 1), (22, .if_icmp .eq 9, 3), (25, .iload 4, 2), (27, .iconst (-1), 1), (28, .if_icmp .eq 7, 3), (31, .iconst 1, 1), (32, .goto 4, 3), (35, .iconst 0, 1), (36, .istore 5, 2), (38, .aload_n 1, 1), (39, .getfield 46, 3), (42, .getstatic 87, 3), (45, .if_acmp .ne 7, 3), (48, .iconst 1, 1), (49, .goto 4, 3), (52, .iconst 0, 1), (53, .istore 6, 2), (55, .iload 5, 2), (57, .ifCond .ne 23, 3), (60, .iload 6, 2), (62, .ifCond .ne 18, 3), (65, .aload_n 1, 1), (66, .bipush 40, 2), (68, .invokevirtual 70, 3), (71, .ifCond .ne 9, 3), (74, .aload_n 1, 1), (75, .iconst 1, 1), (76, .invokevirtual 90, 3), (79, .ireturn, 1), (80, .iload_n 3, 1), (81, .iconst 5, 1), (82, .if_icmp .lt 9, 3), (85, .aload_n 1, 1), (86, .iconst 5, 1), (87, .invokevirtual 90, 3), (90, .ireturn, 1), (91, .iload 5, 2), (93, .ifCond .eq 32, 3), (96, .aload_n 0, 1), (97, .iload 4, 2), (99, .iconst (-1), 1), (100, .if_icmp .eq 11, 3), (103, .bipush (-16), 2), (105, .iload 4, 2), (107, .isub, 1), (108, .goto 8, 3), (111, .aload_n 1, 1), (112, .getfield 94, 3), (115, .l2i, 1), (116, .invokevirtual 63, 3), (119, .aload_n 1, 1), (120, .invokevirtual 60, 3), (123, .iconst 1, 1), (124, .ireturn, 1), (125, .aload_n 1, 1), (126, .invokevirtual 60, 3), (129, .iload 6, 2), (131, .ifCond .eq 23, 3), (134, .aload_n 0, 1), (135, .aload_n 1, 1), (136, .iload_n 2, 1), (137, .iload_n 3, 1), (138, .iconst 1, 1), (139, .iadd, 1), (140, .invokevirtual 77, 3), (143, .istore 7, 2), (145, .aload_n 0, 1), (146, .bipush (-6), 2), (148, .invokevirtual 63, 3), (151, .iload 7, 2), (153, .ireturn, 1), (154, .aload_n 0, 1), (155, .aload_n 1, 1), (156, .iload_n 2, 1), (157, .iload_n 3, 1), (158, .iconst 1, 1), (159, .iadd, 1), (160, .invokevirtual 39, 3), (163, .ifCond .eq 16, 3), (166, .aload_n 1, 1), (167, .bipush 41, 2), (169, .invokevirtual 98, 3), (172, .ifCond .eq 7, 3), (175, .iconst 1, 1), (176, .goto 4, 3), (179, .iconst 0, 1), (180, .ireturn, 1)]
def zq_L46 : List (Nat × Instr × Nat) := [(0, .aload_n 0, 1), (1, .getfield 9, 3), (4, .aload_n 0, 1), (5, .getfield 27, 3), (8, .iload_n 1, 1), (9, .invokestatic 31, 3), (12, .aload_n 0, 1), (13, .dup, 1), (14, .getfield 27, 3), (17, .iconst 1, 1), (18, .iadd, 1), (19, .putfield 27, 3), (22, .return_, 1)]
def zq_L47 : List (Nat × Instr × Nat) := [(0, .aload_n 2, 1), (1, .getstatic 139, 3), (4, .if_acmp .ne 9, 3), (7, .aload_n 0, 1), (8, .aload_n 1, 1), (9, .invokevirtual 142, 3), (12, .ireturn, 1), (13, .aload_n 2, 1), (14, .getstatic 145, 3), (17, .if_acmp .ne 7, 3), (20, .iconst 1, 1), (21, .goto 4, 3), (24, .iconst 0, 1), (25, .istore_n 3, 1), (26, .aload_n 2, 1), (27, .getstatic 145, 3), (30, .if_acmp .ne 8, 3), (33, .bipush 13, 2), (35, .goto 18, 3), (38, .aload_n 2, 1), (39, .getstatic 148, 3), (42, .if_acmp .ne 8, 3), (45, .bipush 99, 2), (47, .goto 6, 3), (50, .sipush 999, 3), (53, .istore 4, 2), (55, .aload_n 1, 1), (56, .iload_n 3, 1), (57, .iload 4, 2), (59, .invokevirtual 151, 3), (62, .ifCond .ne 5, 3), (65, .iconst 0, 1), (66, .ireturn, 1), (67, .aload_n 2, 1), (68, .getstatic 145, 3), (71, .if_acmp .ne 14, 3), (74, .aload_n 0, 1), (75, .aload_n 1, 1), (76, .getfield 155, 3), (79, .putfield 21, 3), (82, .goto 29, 3), (85, .aload_n 2, 1), (86, .getstatic 148, 3), (89, .if_acmp .ne 14, 3), (92, .aload_n 0, 1), (93, .aload_n 1, 1), (94, .getfield 155, 3), (97, .putfield 24, 3), (100, .goto 11, 3), (103, .aload_n 0, 1), (104, .aload_n 1, 1), (105, .getfield 155, 3), (108, .putfield 18, 3), (111, .iconst 1, 1), (112, .ireturn, 1)]
def zq_L48 : List (Nat × Instr × Nat) := [(0, .aload_n 1, 1), (1, .iconst 4, 1), (2, .bipush 40, 2), (4, .invokevirtual 151, 3), (7, .ifCond .ne 5, 3), (10, .iconst 0, 1), (11, .ireturn, 1), (12, .aload_n 0, 1), (13, .aload_n 1, 1), (14, .getfield 155, 3), (17, .putfield 9, 3), (20, .aload_n 1, 1), (21, .getstatic 158, 3), (24, .invokevirtual 161, 3), (27, .ifCond .eq 17, 3), (30, .aload_n 1, 1), (31, .iconst 1, 1), (32, .aload_n 0, 1), (33, .getfield 9, 3), (36, .iconst 1, 1), (37, .isub, 1), (38, .invokevirtual 151, 3), (41, .ifCond .ne 5, 3), (44, .iconst 0, 1), (45, .ireturn, 1), (46, .aload_n 0, 1), (47, .aload_n 1, 1), (48, .getfield 155, 3), (51, .putfield 15, 3), (54, .iconst 1, 1), (55, .ireturn, 1)]
def zq_L49 : List (Nat × Instr × Nat) := [(0, .iconst 0, 1), (1, .istore_n 1, 1), (2, .iload_n 1, 1), (3, .aload_n 0, 1), (4, .getfield 69, 3), (7, .if_icmp .ge 63, 3), (10, .iconst 0, 1), (11, .istore_n 2, 1), (12, .iload_n 2, 1), (13, .aload_n 0, 1), (14, .getfield 66, 3), (17, .if_icmp .ge 47, 3), (20, .aload_n 0, 1), (21, .getfield 53, 3), (24, .iload_n 1, 1), (25, .bipush 6, 2), (27, .imul, 1), (28, .iload_n 2, 1), (29, .iadd, 1), (30, .aload_n 0, 1), (31, .iload_n 1, 1), (32, .iload_n 2, 1), (33, .invokevirtual 209, 3), (36, .invokestatic 175, 3), (39, .aload_n 0, 1), (40, .getfield 56, 3), (43, .iload_n 1, 1), (44, .bipush 6, 2), (46, .imul, 1), (47, .iload_n 2, 1), (48, .iadd, 1), (49, .aload_n 0, 1), (50, .iload_n 1, 1), (51, .iload_n 2, 1), (52, .invokevirtual 213, 3), (55, .invokestatic 175, 3), (58, .iinc 2 1, 3), (61, .goto (-49), 3), (64, .iinc 1 1, 3), (67, .goto (-65), 3), (70, .return_, 1)]
def zq_L50 : List (Nat × Instr × Nat) := [(0, .aload_n 0, 1), (1, .getfield 62, 3), (4, .iconst 0, 1), (5, .invokevirtual 216, 3), (8, .ifCond .eq 17, 3), (11, .aload_n 0, 1), (12, .iconst 0, 1), (13, .iload_n 1, 1), (14, .iload_n 2, 1), (15, .invokevirtual 219, 3), (18, .iconst 0, 1), (19, .bipush 99, 2), (21, .invokestatic 223, 3), (24, .ireturn, 1), (25, .aload_n 0, 1), (26, .getfield 27, 3), (29, .iload_n 2, 1), (30, .invokestatic 226, 3), (33, .iconst 1, 1), (34, .if_icmp .ne 14, 3), (37, .aload_n 0, 1), (38, .getfield 40, 3), (41, .iload_n 1, 1), (42, .invokestatic 226, 3), (45, .goto 11, 3), (48, .aload_n 0, 1), (49, .getfield 37, 3), (52, .iload_n 1, 1), (53, .invokestatic 226, 3), (56, .ireturn, 1)]
def zq_L51 : List (Nat × Instr × Nat) := [(0, .aload_n 0, 1), (1, .getfield 18, 3), (4, .iload_n 1, 1), (5, .invokestatic 35, 3), (8, .aload_n 0, 1), (9, .getfield 15, 3), (12, .iload_n 1, 1), (13, .invokestatic 35, 3), (16, .if_icmp .le 7, 3), (19, .iconst 1, 1), (20, .goto 4, 3), (23, .iconst 0, 1), (24, .ireturn, 1)]
def zq_L52 : List (Nat × Instr × Nat) := [(0, .aload_n 0, 1), (1, .getfield 62, 3), (4, .iload_n 1, 1), (5, .aload_n 0, 1), (6, .getfield 37, 3), (9, .iload_n 2, 1), (10, .invokestatic 226, 3), (13, .aload_n 0, 1), (14, .getfield 40, 3), (17, .iload_n 2, 1), (18, .invokestatic 226, 3), (21, .aload_n 0, 1), (22, .getfield 31, 3), (25, .iload_n 3, 1), (26, .invokestatic 226, 3), (29, .aload_n 0, 1), (30, .getfield 27, 3), (33, .iload_n 3, 1), (34, .invokestatic 226, 3), (37, .invokevirtual 230, 3), (40, .ireturn, 1)]
def zq_L53 : List (Nat × Instr × Nat) := [(0, .aload_n 0, 1), (1, .getfield 24, 3), (4, .iconst 0, 1), (5, .iload_n 2, 1), (6, .invokestatic 31, 3), (9, .aload_n 0, 1), (10, .getfield 24, 3), (13, .iconst 1, 1), (14, .iload_n 3, 1), (15, .invokestatic 31, 3), (18, .aload_n 0, 1), (19, .getfield 24, 3), (22, .iconst 2, 1), (23, .iload 4, 2), (25, .invokestatic 31, 3), (28, .aload_n 0, 1), (29, .getfield 24, 3), (32, .iconst 3, 1), (33, .iload 5, 2), (35, .invokestatic 31, 3), (38, .iconst (-1), 1), (39, .istore 6, 2), (41, .aload_n 0, 1), (42, .getfield 15, 3), (45, .iload_n 1, 1), (46, .invokestatic 35, 3), (49, .istore 7, 2), (51, .iload 7, 2), (53, .aload_n 0, 1), (54, .getfield 18, 3), (57, .iload_n 1, 1), (58, .invokestatic 35, 3), (61, .if_icmp .ge 142, 3), (64, .aload_n 0, 1), (65, .getfield 9, 3), (68, .iload 7, 2), (70, .invokestatic 35, 3), (73, .istore 8, 2), (75, .iload 8, 2), (77, .ifCond .ge 10, 3), (80, .iload 8, 2), (82, .bipush (-16), 2), (84, .if_icmp .gt 40, 3), (87, .iinc 6 1, 3), (90, .aload_n 0, 1), (91, .getfield 21, 3), (94, .iload 6, 2), (96, .iload 8, 2), (98, .ifCond .lt 8, 3), (101, .iload 8, 2), (103, .goto 15, 3), (106, .aload_n 0, 1), (107, .getfield 24, 3), (110, .bipush (-16), 2), (112, .iload 8, 2), (114, .isub, 1), (115, .invokestatic 35, 3), (118, .invokestatic 31, 3), (121, .goto 76, 3), (124, .iload 8, 2), (126, .bipush (-6), 2), (128, .if_icmp .ne 32, 3), (131, .aload_n 0, 1), (132, .getfield 21, 3), (135, .iload 6, 2), (137, .aload_n 0, 1), (138, .getfield 21, 3), (141, .iload 6, 2), (143, .invokestatic 35, 3), (146, .ifCond .ne 7, 3), (149, .iconst 1, 1), (150, .goto 4, 3), (153, .iconst 0, 1), (154, .invokestatic 31, 3), (157, .goto 40, 3), (160, .iinc 6 (-1), 3), (163, .aload_n 0, 1), (164, .getfield 21, 3), (167, .iload 6, 2), (169, .iload 8, 2), (171, .aload_n 0, 1), (172, .getfield 21, 3), (175, .iload 6, 2), (177, .invokestatic 35, 3), (180, .aload_n 0, 1), (181, .getfield 21, 3), (184, .iload 6, 2), (186, .iconst 1, 1), (187, .iadd, 1), (188, .invokestatic 35, 3), (191, .invokestatic 101, 3), (194, .invokestatic 31, 3), (197, .iinc 7 1, 3), (200, .goto (-149), 3), (203, .aload_n 0, 1), (204, .getfield 21, 3), (207, .iconst 0, 1), (208, .invokestatic 35, 3), (211, .ireturn, 1)]
def zq_L54 : List (Nat × Instr × Nat) := [(0, .iload_n 0, 1), (1, .tableswitch 91 (-7) (-1) #[77, 91, 66, 55, 51, 47, 43], 43), (44, .iload_n 1, 1), (45, .iload_n 2, 1), (46, .iadd, 1), (47, .ireturn, 1), (48, .iload_n 1, 1), (49, .iload_n 2, 1), (50, .isub, 1), (51, .ireturn, 1), (52, .iload_n 1, 1), (53, .iload_n 2, 1), (54, .imul, 1), (55, .ireturn, 1), (56, .iload_n 1, 1), (57, .iload_n 2, 1), (58, .if_icmp .ge 7, 3), (61, .iconst 1, 1), (62, .goto 4, 3), (65, .iconst 0, 1), (66, .ireturn, 1), (67, .iload_n 1, 1), (68, .iload_n 2, 1), (69, .if_icmp .ne 7, 3), (72, .iconst 1, 1), (73, .goto 4, 3), (76, .iconst 0, 1), (77, .ireturn, 1), (78, .iload_n 1, 1), (79, .ifCond .eq 11, 3), (82, .iload_n 2, 1), (83, .ifCond .eq 7, 3), (86, .iconst 1, 1), (87, .goto 4, 3), (90, .iconst 0, 1), (91, .ireturn, 1), (92, .iload_n 1, 1), (93, .ifCond .ne 7, 3), (96, .iload_n 2, 1), (97, .ifCond .eq 7, 3), (100, .iconst 1, 1), (101, .goto 4, 3), (104, .iconst 0, 1), (105, .ireturn, 1)]
def zq_L55 : List (Nat × Instr × Nat) := [(0, .iload_n 1, 1), (1, .iload_n 2, 1), (2, .iload_n 0, 1), (3, .invokestatic 338, 3), (6, .invokestatic 362, 3), (9, .ireturn, 1)]
def zq_L56 : List (Nat × Instr × Nat) := [(0, .aload_n 0, 1), (1, .getfield 62, 3), (4, .iconst 1, 1), (5, .invokevirtual 216, 3), (8, .ifCond .eq 13, 3), (11, .aload_n 0, 1), (12, .iconst 1, 1), (13, .iload_n 1, 1), (14, .iload_n 2, 1), (15, .invokevirtual 219, 3), (18, .goto 11, 3), (21, .aload_n 0, 1), (22, .getfield 31, 3), (25, .iload_n 2, 1), (26, .invokestatic 226, 3), (29, .ireturn, 1)]
def zq_L57 : List (Nat × Instr × Nat) := [(0, .aload_n 0, 1), (1, .iconst 0, 1), (2, .putfield 17, 3), (5, .aload_n 0, 1), (6, .getfield 24, 3), (9, .ireturn, 1)]
def zq_L58 : List (Nat × Instr × Nat) := [(0, .aload_n 0, 1), (1, .iconst 0, 1), (2, .putfield 21, 3), (5, .aload_n 0, 1), (6, .iconst 0, 1), (7, .putfield 25, 3), (10, .return_, 1)]
def zq_L59 : List (Nat × Instr × Nat) := [(0, .aload_n 0, 1), (1, .getfield 86, 3), (4, .aload_n 0, 1), (5, .getfield 10, 3), (8, .aload_n 0, 1), (9, .getfield 72, 3), (12, .invokevirtual 119, 3), (15, .istore_n 1, 1), (16, .iload_n 1, 1), (17, .ifCond .eq 5, 3), (20, .iload_n 1, 1), (21, .ireturn, 1), (22, .aload_n 0, 1), (23, .getfield 86, 3), (26, .astore_n 2, 1), (27, .aload_n 0, 1), (28, .aload_n 0, 1), (29, .getfield 82, 3), (32, .putfield 86, 3), (35, .aload_n 0, 1), (36, .aload_n 2, 1), (37, .putfield 82, 3), (40, .iconst 0, 1), (41, .ireturn, 1)]
def zq_L60 : List (Nat × Instr × Nat) := [(0, .aload_n 0, 1), (1, .iconst 0, 1), (2, .putfield 24, 3), (5, .aload_n 1, 1), (6, .invokevirtual 28, 3), (9, .iconst 1, 1), (10, .istore_n 3, 1), (11, .sipush 1000, 3), (14, .istore 4, 2), (16, .iload 4, 2), (18, .ifCond .le 27, 3), (21, .iload_n 3, 1), (22, .ifCond .eq 23, 3), (25, .aload_n 1, 1), (26, .getfield 33, 3), (29, .ifCond .eq 16, 3), (32, .aload_n 0, 1), (33, .aload_n 1, 1), (34, .aload_n 2, 1), (35, .invokevirtual 36, 3), (38, .istore_n 3, 1), (39, .iinc 4 (-1), 3), (42, .goto (-26), 3), (45, .aload_n 1, 1), (46, .invokevirtual 40, 3), (49, .ireturn, 1)]
def zq_L61 : List (Nat × Instr × Nat) := [(0, .aload_n 1, 1), (1, .iconst 2, 1), (2, .invokevirtual 44, 3), (5, .istore_n 3, 1), (6, .iload_n 3, 1), (7, .iconst (-1), 1), (8, .if_icmp .ne 9, 3), (11, .aload_n 1, 1), (12, .iconst 1, 1), (13, .invokevirtual 48, 3), (16, .ireturn, 1), (17, .aload_n 0, 1), (18, .getfield 24, 3), (21, .bipush 24, 2), (23, .if_icmp .lt 9, 3), (26, .aload_n 1, 1), (27, .iconst 5, 1), (28, .invokevirtual 48, 3), (31, .ireturn, 1), (32, .aload_n 0, 1), (33, .getfield 9, 3), (36, .aload_n 0, 1), (37, .getfield 24, 3), (40, .iload_n 3, 1), (41, .invokestatic 52, 3), (44, .aload_n 1, 1), (45, .invokevirtual 56, 3), (48, .aload_n 0, 1), (49, .aload_n 1, 1), (50, .aload_n 2, 1), (51, .iload_n 3, 1), (52, .invokevirtual 59, 3), (55, .ifCond .ne 5, 3), (58, .iconst 0, 1), (59, .ireturn, 1), (60, .aload_n 0, 1), (61, .dup, 1), (62, .getfield 24, 3), (65, .iconst 1, 1), (66, .iadd, 1), (67, .putfield 24, 3), (70, .aload_n 1, 1), (71, .bipush 59, 2), (73, .invokevirtual 63, 3), (76, .ireturn, 1)]
def zq_L62 : List (Nat × Instr × Nat) := [(0, .iload_n 3, 1), (1, .iconst 1, 1), (2, .if_icmp .ne 10, 3), (5, .aload_n 0, 1), (6, .aload_n 1, 1), (7, .aload_n 2, 1), (8, .invokevirtual 67, 3), (11, .ireturn, 1), (12, .iload_n 3, 1), (13, .ifCond .ne 16, 3), (16, .aload_n 1, 1), (17, .iconst 0, 1), (18, .sipush 9999, 3), (21, .invokevirtual 70, 3), (24, .istore 4, 2), (26, .goto 27, 3), (29, .iload_n 3, 1), (30, .iconst 2, 1), (31, .if_icmp .ne 13, 3), (34, .aload_n 1, 1), (35, .iconst 3, 1), (36, .invokevirtual 74, 3), (39, .istore 4, 2), (41, .goto 12, 3), (44, .aload_n 1, 1), (45, .iconst 1, 1), (46, .bipush 13, 2), (48, .invokevirtual 70, 3), (51, .istore 4, 2), (53, .aload_n 0, 1), (54, .getfield 15, 3), (57, .aload_n 0, 1), (58, .getfield 24, 3), (61, .aload_n 1, 1), (62, .getfield 77, 3), (65, .invokestatic 52, 3), (68, .iload 4, 2), (70, .ireturn, 1)]
def zq_L63 : List (Nat × Instr × Nat) := [(0, .aload_n 1, 1), (1, .aload_n 2, 1), (2, .iconst (-1), 1), (3, .invokestatic 80, 3), (6, .ifCond .ne 5, 3), (9, .iconst 0, 1), (10, .ireturn, 1), (11, .aload_n 1, 1), (12, .getfield 77, 3), (15, .istore_n 3, 1), (16, .aload_n 0, 1), (17, .getfield 15, 3), (20, .aload_n 0, 1), (21, .getfield 24, 3), (24, .iload_n 3, 1), (25, .invokestatic 52, 3), (28, .aload_n 1, 1), (29, .aload_n 2, 1), (30, .iload_n 3, 1), (31, .invokestatic 80, 3), (34, .ifCond .ne 5, 3), (37, .iconst 0, 1), (38, .ireturn, 1), (39, .aload_n 0, 1), (40, .getfield 18, 3), (43, .aload_n 0, 1), (44, .getfield 24, 3), (47, .aload_n 1, 1), (48, .getfield 77, 3), (51, .invokestatic 52, 3), (54, .aload_n 1, 1), (55, .iconst 0, 1), (56, .sipush 999, 3), (59, .invokevirtual 70, 3), (62, .istore 4, 2), (64, .aload_n 0, 1), (65, .getfield 21, 3), (68, .aload_n 0, 1), (69, .getfield 24, 3), (72, .aload_n 1, 1), (73, .getfield 77, 3), (76, .invokestatic 52, 3), (79, .iload 4, 2), (81, .ireturn, 1)]
def zq_L64 : List (Nat × Instr × Nat) := [(0, .aload_n 0, 1), (1, .invokevirtual 83, 3), (4, .ifCond .ne 9, 3), (7, .aload_n 0, 1), (8, .iconst 1, 1), (9, .invokevirtual 48, 3), (12, .ireturn, 1), (13, .aload_n 1, 1), (14, .aload_n 0, 1), (15, .getfield 87, 3), (18, .invokevirtual 91, 3), (21, .istore_n 3, 1), (22, .iload_n 3, 1), (23, .iconst (-1), 1), (24, .if_icmp .ne 9, 3), (27, .aload_n 0, 1), (28, .iconst 2, 1), (29, .invokevirtual 48, 3), (32, .ireturn, 1), (33, .iload_n 3, 1), (34, .iload_n 2, 1), (35, .if_icmp .ne 9, 3), (38, .aload_n 0, 1), (39, .iconst 3, 1), (40, .invokevirtual 48, 3), (43, .ireturn, 1), (44, .aload_n 0, 1), (45, .iload_n 3, 1), (46, .putfield 77, 3), (49, .aload_n 0, 1), (50, .invokevirtual 56, 3), (53, .iconst 1, 1), (54, .ireturn, 1)]
def zq_L65 : List (Nat × Instr × Nat) := [(0, .aload_n 0, 1), (1, .getfield 72, 3), (4, .iload_n 1, 1), (5, .invokevirtual 122, 3), (8, .ifCond .ne 5, 3), (11, .iconst (-1), 1), (12, .ireturn, 1), (13, .iload_n 2, 1), (14, .tableswitch 101 0 4 #[34, 46, 58, 70, 82], 34), (48, .aload_n 0, 1), (49, .getfield 72, 3), (52, .getfield 126, 3), (55, .iload_n 1, 1), (56, .invokestatic 129, 3), (59, .ireturn, 1), (60, .aload_n 0, 1), (61, .getfield 72, 3), (64, .getfield 133, 3), (67, .iload_n 1, 1), (68, .invokestatic 129, 3), (71, .ireturn, 1), (72, .aload_n 0, 1), (73, .getfield 72, 3), (76, .getfield 136, 3), (79, .iload_n 1, 1), (80, .invokestatic 129, 3), (83, .ireturn, 1), (84, .aload_n 0, 1), (85, .getfield 19, 3), (88, .getfield 139, 3), (91, .iload_n 1, 1), (92, .invokestatic 129, 3), (95, .ireturn, 1), (96, .aload_n 0, 1), (97, .getfield 72, 3), (100, .aload_n 0, 1), (101, .getfield 19, 3), (104, .getfield 139, 3), (107, .invokevirtual 142, 3), (110, .iload_n 1, 1), (111, .ishr, 1), (112, .iconst 1, 1), (113, .iand, 1), (114, .ireturn, 1), (115, .iconst (-1), 1), (116, .ireturn, 1)]
def zq_L66 : List (Nat × Instr × Nat) := [(0, .iload_n 1, 1), (1, .ifCond .lt 15, 3), (4, .iload_n 1, 1), (5, .aload_n 0, 1), (6, .getfield 66, 3), (9, .if_icmp .ge 7, 3), (12, .iconst 1, 1), (13, .goto 4, 3), (16, .iconst 0, 1), (17, .ireturn, 1)]
def zq_L67 : List (Nat × Instr × Nat) := [(0, .iconst 0, 1), (1, .istore_n 2, 1), (2, .iconst 0, 1), (3, .istore_n 3, 1), (4, .iload_n 3, 1), (5, .aload_n 0, 1), (6, .getfield 66, 3), (9, .if_icmp .ge 81, 3), (12, .aload_n 0, 1), (13, .getfield 34, 3), (16, .iload_n 3, 1), (17, .invokestatic 226, 3), (20, .istore 4, 2), (22, .iload 4, 2), (24, .iconst (-1), 1), (25, .if_icmp .eq 32, 3), (28, .iload_n 2, 1), (29, .iload 4, 2), (31, .ishr, 1), (32, .iconst 1, 1), (33, .iand, 1), (34, .iconst 1, 1), (35, .if_icmp .ne 26, 3), (38, .aload_n 0, 1), (39, .aload_n 1, 1), (40, .iload 4, 2), (42, .invokestatic 226, 3), (45, .iload 4, 2), (47, .invokevirtual 240, 3), (50, .aload_n 0, 1), (51, .getfield 24, 3), (54, .if_icmp .lt 7, 3), (57, .iconst 1, 1), (58, .goto 4, 3), (61, .iconst 0, 1), (62, .istore 5, 2), (64, .iload 5, 2), (66, .ifCond .eq 18, 3), (69, .aload_n 1, 1), (70, .iload_n 3, 1), (71, .invokestatic 226, 3), (74, .iconst (-1), 1), (75, .if_icmp .eq 9, 3), (78, .iload_n 2, 1), (79, .iconst 1, 1), (80, .iload_n 3, 1), (81, .ishl, 1), (82, .ior, 1), (83, .istore_n 2, 1), (84, .iinc 3 1, 3), (87, .goto (-83), 3), (90, .iload_n 2, 1), (91, .ireturn, 1)]
def zq_L68 : List (Nat × Instr × Nat) := [(0, .aload_n 0, 1), (1, .iload_n 1, 1), (2, .invokevirtual 234, 3), (5, .ifCond .eq 27, 3), (8, .aload_n 0, 1), (9, .iload_n 2, 1), (10, .invokevirtual 237, 3), (13, .ifCond .eq 19, 3), (16, .aload_n 0, 1), (17, .getfield 53, 3), (20, .iload_n 1, 1), (21, .bipush 6, 2), (23, .imul, 1), (24, .iload_n 2, 1), (25, .iadd, 1), (26, .invokestatic 226, 3), (29, .goto 4, 3), (32, .iconst 0, 1), (33, .ireturn, 1)]
def zq_L69 : List (Nat × Instr × Nat) := [(0, .iload_n 1, 1), (1, .ifCond .lt 15, 3), (4, .iload_n 1, 1), (5, .aload_n 0, 1), (6, .getfield 69, 3), (9, .if_icmp .ge 7, 3), (12, .iconst 1, 1), (13, .goto 4, 3), (16, .iconst 0, 1), (17, .ireturn, 1)]
def zq_L70 : List (Nat × Instr × Nat) := [(0, .aload_n 0, 1), (1, .getfield 72, 3), (4, .iload_n 1, 1), (5, .invokevirtual 146, 3), (8, .ifCond .ne 5, 3), (11, .iconst (-1), 1), (12, .ireturn, 1), (13, .iload_n 2, 1), (14, .tableswitch 75 0 3 #[30, 42, 54, 66], 30), (44, .aload_n 0, 1), (45, .getfield 72, 3), (48, .getfield 149, 3), (51, .iload_n 1, 1), (52, .invokestatic 129, 3), (55, .ireturn, 1), (56, .aload_n 0, 1), (57, .getfield 72, 3), (60, .getfield 152, 3), (63, .iload_n 1, 1), (64, .invokestatic 129, 3), (67, .ireturn, 1), (68, .aload_n 0, 1), (69, .getfield 19, 3), (72, .getfield 155, 3), (75, .iload_n 1, 1), (76, .invokestatic 129, 3), (79, .ireturn, 1), (80, .aload_n 0, 1), (81, .getfield 19, 3), (84, .iload_n 1, 1), (85, .invokevirtual 158, 3), (88, .ireturn, 1), (89, .iconst (-1), 1), (90, .ireturn, 1)]
def zq_L71 : List (Nat × Instr × Nat) := [(0, .iconst 0, 1), (1, .istore_n 2, 1), (2, .iload_n 2, 1), (3, .bipush 6, 2), (5, .if_icmp .ge 23, 3), (8, .aload_n 0, 1), (9, .getfield 9, 3), (12, .iload_n 2, 1), (13, .invokestatic 32, 3), (16, .iload_n 1, 1), (17, .if_icmp .ne 5, 3), (20, .iload_n 2, 1), (21, .ireturn, 1), (22, .iinc 2 1, 3), (25, .goto (-23), 3), (28, .iconst (-1), 1), (29, .ireturn, 1)]
def zq_L72 : List (Nat × Instr × Nat) := [(0, .aload_n 0, 1), (1, .getfield 72, 3), (4, .iload_n 1, 1), (5, .invokevirtual 146, 3), (8, .ifCond .eq 26, 3), (11, .aload_n 0, 1), (12, .getfield 72, 3), (15, .iload_n 2, 1), (16, .invokevirtual 122, 3), (19, .ifCond .eq 15, 3), (22, .aload_n 0, 1), (23, .getfield 72, 3), (26, .iload_n 1, 1), (27, .iload_n 2, 1), (28, .invokevirtual 162, 3), (31, .goto 4, 3), (34, .iconst (-1), 1), (35, .ireturn, 1)]
def zq_L73 : List (Nat × Instr × Nat) := [(0, .aload_n 0, 1), (1, .getfield 72, 3), (4, .aload_n 0, 1), (5, .getfield 19, 3), (8, .getfield 139, 3), (11, .invokevirtual 166, 3), (14, .ireturn, 1)]
def zq_L74 : List (Nat × Instr × Nat) := [(0, .aload_n 0, 1), (1, .aload_n 1, 1), (2, .invokevirtual 243, 3), (5, .istore_n 2, 1), (6, .iconst 0, 1), (7, .istore_n 3, 1), (8, .iconst 0, 1), (9, .istore 4, 2), (11, .iload 4, 2), (13, .aload_n 0, 1), (14, .getfield 66, 3), (17, .if_icmp .ge 74, 3), (20, .iload_n 2, 1), (21, .iload 4, 2), (23, .ishr, 1), (24, .iconst 1, 1), (25, .iand, 1), (26, .iconst 1, 1), (27, .if_icmp .ne 58, 3), (30, .aload_n 0, 1), (31, .aload_n 1, 1), (32, .iload 4, 2), (34, .invokestatic 226, 3), (37, .iload 4, 2), (39, .invokevirtual 247, 3), (42, .istore 5, 2), (44, .aload_n 0, 1), (45, .getfield 27, 3), (48, .iload 4, 2), (50, .invokestatic 226, 3), (53, .istore 6, 2), (55, .iload_n 3, 1), (56, .iload 6, 2), (58, .iconst 2, 1), (59, .if_icmp .ne 10, 3), (62, .iload 5, 2), (64, .iconst 2, 1), (65, .idiv, 1), (66, .goto 17, 3), (69, .iload 6, 2), (71, .iconst 3, 1), (72, .if_icmp .ne 9, 3), (75, .iload 5, 2), (77, .ineg, 1), (78, .goto 5, 3), (81, .iload 5, 2), (83, .iadd, 1), (84, .istore_n 3, 1), (85, .iinc 4 1, 3), (88, .goto (-77), 3), (91, .iconst 0, 1), (92, .iload_n 3, 1), (93, .invokestatic 250, 3), (96, .ireturn, 1)]
def zq_L75 : List (Nat × Instr × Nat) := [(0, .aload_n 0, 1), (1, .iload_n 1, 1), (2, .iload_n 2, 1), (3, .invokevirtual 240, 3), (6, .aload_n 0, 1), (7, .getfield 31, 3), (10, .iload_n 2, 1), (11, .invokestatic 226, 3), (14, .imul, 1), (15, .ireturn, 1)]
def zq_L76 : List (Nat × Instr × Nat) := [(0, .iload_n 1, 1), (1, .iconst 0, 1), (2, .sipush 9999, 3), (5, .invokestatic 169, 3), (8, .ifCond .ne 5, 3), (11, .iconst 0, 1), (12, .ireturn, 1), (13, .aload_n 0, 1), (14, .invokevirtual 173, 3), (17, .aload_n 0, 1), (18, .getfield 50, 3), (21, .iload_n 1, 1), (22, .invokevirtual 176, 3), (25, .aload_n 0, 1), (26, .getfield 50, 3), (29, .aload_n 0, 1), (30, .getfield 72, 3), (33, .aload_n 0, 1), (34, .getfield 19, 3), (37, .invokevirtual 180, 3), (40, .iconst 1, 1), (41, .ireturn, 1)]
def zq_L77 : List (Nat × Instr × Nat) := [(0, .aload_n 0, 1), (1, .getfield 205, 3), (4, .ifCond .lt 12, 3), (7, .aload_n 0, 1), (8, .getfield 205, 3), (11, .bipush 16, 2), (13, .if_icmp .lt 8, 3), (16, .aload_n 0, 1), (17, .iconst 0, 1), (18, .putfield 205, 3), (21, .aload_n 0, 1), (22, .getfield 54, 3), (25, .aload_n 0, 1), (26, .getfield 205, 3), (29, .aaload, 1), (30, .aload_n 0, 1), (31, .getfield 19, 3), (34, .invokevirtual 208, 3), (37, .aload_n 0, 1), (38, .aload_n 0, 1), (39, .getfield 205, 3), (42, .iconst 1, 1), (43, .iadd, 1), (44, .bipush 16, 2), (46, .irem, 1), (47, .putfield 205, 3), (50, .aload_n 0, 1), (51, .aload_n 0, 1), (52, .getfield 113, 3), (55, .iconst 1, 1), (56, .iadd, 1), (57, .bipush 16, 2), (59, .invokestatic 338, 3), (62, .putfield 113, 3), (65, .return_, 1)]
def zq_L78 : List (Nat × Instr × Nat) := [(0, .iconst 0, 1), (1, .istore_n 2, 1), (2, .iload_n 2, 1), (3, .bipush 6, 2), (5, .if_icmp .ge 41, 3), (8, .aload_n 0, 1), (9, .getfield 9, 3), (12, .iload_n 2, 1), (13, .aload_n 1, 1), (14, .getfield 9, 3), (17, .iload_n 2, 1), (18, .invokestatic 32, 3), (21, .invokestatic 27, 3), (24, .aload_n 0, 1), (25, .getfield 15, 3), (28, .iload_n 2, 1), (29, .aload_n 1, 1), (30, .getfield 15, 3), (33, .iload_n 2, 1), (34, .invokestatic 32, 3), (37, .invokestatic 27, 3), (40, .iinc 2 1, 3), (43, .goto (-41), 3), (46, .aload_n 0, 1), (47, .aload_n 1, 1), (48, .getfield 36, 3), (51, .putfield 36, 3), (54, .aload_n 0, 1), (55, .aload_n 1, 1), (56, .getfield 42, 3), (59, .putfield 42, 3), (62, .aload_n 0, 1), (63, .aload_n 1, 1), (64, .getfield 45, 3), (67, .putfield 45, 3), (70, .aload_n 0, 1), (71, .aload_n 1, 1), (72, .getfield 48, 3), (75, .putfield 48, 3), (78, .return_, 1)]
def zq_L79 : List (Nat × Instr × Nat) := [(0, .aload_n 0, 1), (1, .iload_n 1, 1), (2, .i2l, 1), (3, .putfield 15, 3), (6, .return_, 1)]
def zq_L80 : List (Nat × Instr × Nat) := [(0, .iconst 0, 1), (1, .istore_n 3, 1), (2, .iload_n 3, 1), (3, .aload_n 1, 1), (4, .getfield 27, 3), (7, .if_icmp .ge 18, 3), (10, .aload_n 0, 1), (11, .getfield 9, 3), (14, .iload_n 3, 1), (15, .iload_n 3, 1), (16, .invokestatic 33, 3), (19, .iinc 3 1, 3), (22, .goto (-20), 3), (25, .aload_n 1, 1), (26, .getfield 27, 3), (29, .iconst 1, 1), (30, .isub, 1), (31, .istore_n 3, 1), (32, .iload_n 3, 1), (33, .ifCond .le 56, 3), (36, .aload_n 0, 1), (37, .iload_n 3, 1), (38, .iconst 1, 1), (39, .iadd, 1), (40, .invokevirtual 37, 3), (43, .istore 4, 2), (45, .aload_n 0, 1), (46, .getfield 9, 3), (49, .iload_n 3, 1), (50, .invokestatic 41, 3), (53, .istore 5, 2), (55, .aload_n 0, 1), (56, .getfield 9, 3), (59, .iload_n 3, 1), (60, .aload_n 0, 1), (61, .getfield 9, 3), (64, .iload 4, 2), (66, .invokestatic 41, 3), (69, .invokestatic 33, 3), (72, .aload_n 0, 1), (73, .getfield 9, 3), (76, .iload 4, 2), (78, .iload 5, 2), (80, .invokestatic 33, 3), (83, .iinc 3 (-1), 3), (86, .goto (-54), 3), (89, .iconst 0, 1), (90, .istore_n 3, 1), (91, .iload_n 3, 1), (92, .bipush 6, 2), (94, .if_icmp .ge 57, 3), (97, .iload_n 3, 1), (98, .aload_n 1, 1), (99, .getfield 45, 3), (102, .if_icmp .ge 15, 3), (105, .iload_n 3, 1), (106, .aload_n 1, 1), (107, .getfield 27, 3), (110, .if_icmp .ge 7, 3), (113, .iconst 1, 1), (114, .goto 4, 3), (117, .iconst 0, 1), (118, .istore 4, 2), (120, .aload_n 2, 1), (121, .getfield 48, 3), (124, .iload_n 3, 1), (125, .iload 4, 2), (127, .ifCond .eq 14, 3), (130, .aload_n 0, 1), (131, .getfield 9, 3), (134, .iload_n 3, 1), (135, .invokestatic 41, 3), (138, .goto 4, 3), (141, .iconst (-1), 1), (142, .invokestatic 33, 3), (145, .iinc 3 1, 3), (148, .goto (-57), 3), (151, .aload_n 2, 1), (152, .iconst 0, 1), (153, .putfield 53, 3), (156, .return_, 1)]
def zq_L81 : List (Nat × Instr × Nat) := [(0, .aload_n 0, 1), (1, .aload_n 0, 1), (2, .getfield 15, 3), (5, .ldc2_w 19, 3), (8, .lmul, 1), (9, .ldc2_w 21, 3), (12, .ladd, 1), (13, .ldc2_w 23, 3), (16, .lrem, 1), (17, .putfield 15, 3), (20, .iload_n 1, 1), (21, .ifCond .le 18, 3), (24, .aload_n 0, 1), (25, .getfield 15, 3), (28, .ldc2_w 25, 3), (31, .ldiv, 1), (32, .iload_n 1, 1), (33, .i2l, 1), (34, .lrem, 1), (35, .l2i, 1), (36, .goto 4, 3), (39, .iconst 0, 1), (40, .ireturn, 1)]
def zq_L82 : List (Nat × Instr × Nat) := [(0, .aload_n 0, 1), (1, .getfield 19, 3), (4, .aload_n 0, 1), (5, .getfield 72, 3), (8, .iload_n 1, 1), (9, .iload_n 2, 1), (10, .iload_n 3, 1), (11, .invokevirtual 184, 3), (14, .ifCond .ne 5, 3), (17, .iconst 0, 1), (18, .ireturn, 1), (19, .aload_n 0, 1), (20, .invokevirtual 173, 3), (23, .aload_n 0, 1), (24, .getfield 19, 3), (27, .iload_n 1, 1), (28, .iload_n 2, 1), (29, .iload_n 3, 1), (30, .invokevirtual 188, 3), (33, .iconst 1, 1), (34, .ireturn, 1)]
def zq_L83 : List (Nat × Instr × Nat) := [(0, .aload_n 1, 1), (1, .iload_n 2, 1), (2, .invokevirtual 52, 3), (5, .ifCond .eq 54, 3), (8, .aload_n 1, 1), (9, .iload_n 3, 1), (10, .invokevirtual 52, 3), (13, .ifCond .eq 46, 3), (16, .iload_n 2, 1), (17, .iload_n 3, 1), (18, .if_icmp .eq 41, 3), (21, .iload 4, 2), (23, .iconst 0, 1), (24, .sipush 999, 3), (27, .invokestatic 56, 3), (30, .ifCond .eq 29, 3), (33, .aload_n 0, 1), (34, .iload_n 2, 1), (35, .invokevirtual 60, 3), (38, .iconst (-1), 1), (39, .if_icmp .eq 20, 3), (42, .aload_n 0, 1), (43, .getfield 15, 3), (46, .iload_n 3, 1), (47, .invokestatic 32, 3), (50, .iload 4, 2), (52, .if_icmp .lt 7, 3), (55, .iconst 1, 1), (56, .goto 4, 3), (59, .iconst 0, 1), (60, .ireturn, 1)]
def zq_L84 : List (Nat × Instr × Nat) := [(0, .aload_n 0, 1), (1, .iload_n 1, 1), (2, .invokevirtual 60, 3), (5, .istore 4, 2), (7, .aload_n 0, 1), (8, .iload_n 2, 1), (9, .invokevirtual 60, 3), (12, .istore 5, 2), (14, .aload_n 0, 1), (15, .getfield 9, 3), (18, .iload 4, 2), (20, .iload_n 2, 1), (21, .invokestatic 27, 3), (24, .aload_n 0, 1), (25, .getfield 9, 3), (28, .iload 5, 2), (30, .iload_n 1, 1), (31, .invokestatic 27, 3), (34, .aload_n 0, 1), (35, .getfield 15, 3), (38, .iload_n 1, 1), (39, .aload_n 0, 1), (40, .getfield 15, 3), (43, .iload_n 1, 1), (44, .invokestatic 32, 3), (47, .iload_n 3, 1), (48, .iadd, 1), (49, .invokestatic 27, 3), (52, .aload_n 0, 1), (53, .getfield 15, 3), (56, .iload_n 2, 1), (57, .aload_n 0, 1), (58, .getfield 15, 3), (61, .iload_n 2, 1), (62, .invokestatic 32, 3), (65, .iload_n 3, 1), (66, .isub, 1), (67, .invokestatic 27, 3), (70, .return_, 1)]
def zq_L85 : List (Nat × Instr × Nat) := [(0, .aload_n 0, 1), (1, .getfield 19, 3), (4, .iload_n 1, 1), (5, .invokevirtual 191, 3), (8, .ifCond .ne 5, 3), (11, .iconst 0, 1), (12, .ireturn, 1), (13, .aload_n 0, 1), (14, .invokevirtual 173, 3), (17, .aload_n 0, 1), (18, .getfield 19, 3), (21, .iload_n 1, 1), (22, .putfield 194, 3), (25, .iconst 1, 1), (26, .ireturn, 1)]
def zq_L86 : List (Nat × Instr × Nat) := [(0, .iload_n 1, 1), (1, .iconst 0, 1), (2, .iconst 2, 1), (3, .invokestatic 56, 3), (6, .ifCond .eq 15, 3), (9, .iload_n 1, 1), (10, .aload_n 0, 1), (11, .getfield 36, 3), (14, .if_icmp .eq 7, 3), (17, .iconst 1, 1), (18, .goto 4, 3), (21, .iconst 0, 1), (22, .ireturn, 1)]
def zq_L87 : List (Nat × Instr × Nat) := [(0, .iload_n 1, 1), (1, .iconst 1, 1), (2, .bipush 13, 2), (4, .invokestatic 169, 3), (7, .ifCond .eq 17, 3), (10, .aload_n 0, 1), (11, .getfield 19, 3), (14, .aload_n 0, 1), (15, .getfield 72, 3), (18, .invokevirtual 197, 3), (21, .ifCond .ne 5, 3), (24, .iconst (-1), 1), (25, .ireturn, 1), (26, .aload_n 0, 1), (27, .invokevirtual 173, 3), (30, .aload_n 0, 1), (31, .getfield 19, 3), (34, .aload_n 0, 1), (35, .getfield 72, 3), (38, .iload_n 1, 1), (39, .invokevirtual 201, 3), (42, .ireturn, 1)]
def zq_L88 : List (Nat × Instr × Nat) := [(0, .aload_n 0, 1), (1, .getfield 42, 3), (4, .ifCond .le 25, 3), (7, .aload_n 0, 1), (8, .getfield 42, 3), (11, .aload_n 1, 1), (12, .getfield 64, 3), (15, .if_icmp .ge 14, 3), (18, .aload_n 0, 1), (19, .getfield 48, 3), (22, .ifCond .ne 7, 3), (25, .iconst 1, 1), (26, .goto 4, 3), (29, .iconst 0, 1), (30, .ireturn, 1)]
def zq_L89 : List (Nat × Instr × Nat) := [(0, .aload_n 1, 1), (1, .aload_n 1, 1), (2, .aload_n 0, 1), (3, .getfield 9, 3), (6, .invokevirtual 67, 3), (9, .aload_n 1, 1), (10, .getfield 71, 3), (13, .aload_n 0, 1), (14, .getfield 36, 3), (17, .invokevirtual 74, 3), (20, .istore_n 3, 1), (21, .iconst 0, 1), (22, .istore 4, 2), (24, .iload 4, 2), (26, .iload_n 2, 1), (27, .if_icmp .ge 68, 3), (30, .aload_n 0, 1), (31, .aload_n 1, 1), (32, .invokevirtual 78, 3), (35, .ifCond .eq 60, 3), (38, .aload_n 0, 1), (39, .aload_n 1, 1), (40, .aload_n 0, 1), (41, .getfield 42, 3), (44, .iload_n 3, 1), (45, .invokevirtual 82, 3), (48, .putfield 42, 3), (51, .aload_n 0, 1), (52, .dup, 1), (53, .getfield 45, 3), (56, .iconst 1, 1), (57, .iadd, 1), (58, .putfield 45, 3), (61, .iinc 4 1, 3), (64, .aload_n 0, 1), (65, .aload_n 1, 1), (66, .getfield 86, 3), (69, .ifCond .le 19, 3), (72, .aload_n 0, 1), (73, .getfield 45, 3), (76, .aload_n 1, 1), (77, .getfield 86, 3), (80, .irem, 1), (81, .ifCond .ne 7, 3), (84, .iconst 1, 1), (85, .goto 4, 3), (88, .iconst 0, 1), (89, .putfield 48, 3), (92, .goto (-68), 3), (95, .iload 4, 2), (97, .ireturn, 1)]
def zq_L90 : List (Nat × Instr × Nat) := [(0, .aload_n 0, 1), (1, .getfield 62, 3), (4, .iconst 2, 1), (5, .invokevirtual 216, 3), (8, .ifCond .eq 22, 3), (11, .aload_n 0, 1), (12, .getfield 62, 3), (15, .iconst 2, 1), (16, .iload_n 1, 1), (17, .iload_n 2, 1), (18, .iload_n 3, 1), (19, .iconst 0, 1), (20, .invokevirtual 230, 3), (23, .bipush (-3), 2), (25, .iconst 3, 1), (26, .invokestatic 223, 3), (29, .ireturn, 1), (30, .iload_n 3, 1), (31, .iconst 2, 1), (32, .if_icmp .ne 5, 3), (35, .iconst (-1), 1), (36, .ireturn, 1), (37, .iload_n 3, 1), (38, .iconst 1, 1), (39, .if_icmp .ne 9, 3), (42, .iload_n 1, 1), (43, .iload_n 2, 1), (44, .invokestatic 255, 3), (47, .ireturn, 1), (48, .iconst 2, 1), (49, .iload_n 1, 1), (50, .imul, 1), (51, .iload_n 2, 1), (52, .if_icmp .ge 7, 3), (55, .iconst (-1), 1), (56, .goto 4, 3), (59, .iconst 0, 1), (60, .ireturn, 1)]
def zq_L91 : List (Nat × Instr × Nat) := [(0, .iload_n 0, 1), (1, .iload_n 1, 1), (2, .if_icmp .ge 7, 3), (5, .iconst (-1), 1), (6, .goto 13, 3), (9, .iload_n 0, 1), (10, .iload_n 1, 1), (11, .if_icmp .ne 7, 3), (14, .iconst 0, 1), (15, .goto 4, 3), (18, .iconst 1, 1), (19, .ireturn, 1)]
def zq_L92 : List (Nat × Instr × Nat) := [(0, .iload_n 1, 1), (1, .ifCond .le 11, 3), (4, .iload_n 1, 1), (5, .aload_n 0, 1), (6, .getfield 9, 3), (9, .if_icmp .lt 7, 3), (12, .iload_n 1, 1), (13, .goto 14, 3), (16, .iload_n 1, 1), (17, .iload_n 2, 1), (18, .iadd, 1), (19, .iconst 0, 1), (20, .aload_n 0, 1), (21, .getfield 9, 3), (24, .invokestatic 223, 3), (27, .ireturn, 1)]
def zq_L93 : List (Nat × Instr × Nat) := [(0, .aload_n 0, 1), (1, .getfield 205, 3), (4, .bipush 16, 2), (6, .iadd, 1), (7, .iconst 1, 1), (8, .isub, 1), (9, .bipush 16, 2), (11, .irem, 1), (12, .istore_n 1, 1), (13, .aload_n 0, 1), (14, .getfield 113, 3), (17, .ifCond .le 7, 3), (20, .iload_n 1, 1), (21, .ifCond .ge 5, 3), (24, .iconst 0, 1), (25, .ireturn, 1), (26, .aload_n 0, 1), (27, .getfield 19, 3), (30, .aload_n 0, 1), (31, .getfield 54, 3), (34, .iload_n 1, 1), (35, .aaload, 1), (36, .invokevirtual 208, 3), (39, .aload_n 0, 1), (40, .iload_n 1, 1), (41, .putfield 205, 3), (44, .aload_n 0, 1), (45, .dup, 1), (46, .getfield 113, 3), (49, .iconst 1, 1), (50, .isub, 1), (51, .putfield 113, 3), (54, .iconst 1, 1), (55, .ireturn, 1)]
def zq_L94 : List (Nat × Instr × Nat) := [(0, .iload_n 1, 1), (1, .iconst 0, 1), (2, .iconst 2, 1), (3, .invokestatic 169, 3), (6, .ifCond .ne 6, 3), (9, .bipush (-2), 2), (11, .ireturn, 1), (12, .aload_n 0, 1), (13, .getfield 23, 3), (16, .aload_n 0, 1), (17, .getfield 72, 3), (20, .invokevirtual 89, 3), (23, .aload_n 0, 1), (24, .getfield 82, 3), (27, .aload_n 0, 1), (28, .getfield 72, 3), (31, .aload_n 0, 1), (32, .getfield 23, 3), (35, .aload_n 0, 1), (36, .getfield 50, 3), (39, .invokevirtual 212, 3), (42, .istore_n 2, 1), (43, .iload_n 1, 1), (44, .ifCond .ne 5, 3), (47, .iload_n 2, 1), (48, .ireturn, 1), (49, .iload_n 1, 1), (50, .iconst 1, 1), (51, .if_icmp .ne 13, 3), (54, .aload_n 0, 1), (55, .getfield 23, 3), (58, .getfield 216, 3), (61, .goto 10, 3), (64, .aload_n 0, 1), (65, .getfield 23, 3), (68, .getfield 219, 3), (71, .ireturn, 1)]
def zq_L95 : List (Nat × Instr × Nat) := [(0, .iconst (-1), 1), (1, .istore 4, 2), (3, .iconst 0, 1), (4, .istore 5, 2), (6, .iload 5, 2), (8, .aload_n 0, 1), (9, .getfield 24, 3), (12, .if_icmp .ge 31, 3), (15, .aload_n 0, 1), (16, .iload 5, 2), (18, .aload_n 1, 1), (19, .aload_n 2, 1), (20, .aload_n 3, 1), (21, .invokevirtual 97, 3), (24, .ifCond .ne 13, 3), (27, .iload 4, 2), (29, .iconst (-1), 1), (30, .if_icmp .ne 7, 3), (33, .iload 5, 2), (35, .istore 4, 2), (37, .iinc 5 1, 3), (40, .goto (-34), 3), (43, .iload 4, 2), (45, .ireturn, 1)]
def zq_L96 : List (Nat × Instr × Nat) := [(0, .aload_n 0, 1), (1, .getfield 9, 3), (4, .iload_n 1, 1), (5, .invokestatic 101, 3), (8, .istore 5, 2), (10, .aload_n 0, 1), (11, .getfield 15, 3), (14, .iload_n 1, 1), (15, .invokestatic 101, 3), (18, .istore 6, 2), (20, .iload 5, 2), (22, .ifCond .ne 19, 3), (25, .aload 4, 2), (27, .iload 6, 2), (29, .invokevirtual 105, 3), (32, .aload 4, 2), (34, .aload_n 2, 1), (35, .aload_n 3, 1), (36, .invokevirtual 111, 3), (39, .iconst 1, 1), (40, .ireturn, 1), (41, .iload 5, 2), (43, .iconst 1, 1), (44, .if_icmp .ne 58, 3), (47, .aload_n 3, 1), (48, .aload_n 2, 1), (49, .iload 6, 2), (51, .aload_n 0, 1), (52, .getfield 18, 3), (55, .iload_n 1, 1), (56, .invokestatic 101, 3), (59, .aload_n 0, 1), (60, .getfield 21, 3), (63, .iload_n 1, 1), (64, .invokestatic 101, 3), (67, .invokevirtual 115, 3), (70, .istore 7, 2), (72, .iload 7, 2), (74, .ifCond .eq 25, 3), (77, .aload_n 3, 1), (78, .iload 6, 2), (80, .aload_n 0, 1), (81, .getfield 18, 3), (84, .iload_n 1, 1), (85, .invokestatic 101, 3), (88, .aload_n 0, 1), (89, .getfield 21, 3), (92, .iload_n 1, 1), (93, .invokestatic 101, 3), (96, .invokevirtual 121, 3), (99, .iload 7, 2), (101, .ireturn, 1), (102, .iload 5, 2), (104, .iconst 2, 1), (105, .if_icmp .ne 25, 3), (108, .aload_n 3, 1), (109, .iload 6, 2), (111, .invokevirtual 125, 3), (114, .istore 7, 2), (116, .iload 7, 2), (118, .ifCond .eq 9, 3), (121, .aload_n 3, 1), (122, .iload 6, 2), (124, .putfield 128, 3), (127, .iload 7, 2), (129, .ireturn, 1), (130, .aload_n 3, 1), (131, .aload_n 2, 1), (132, .iload 6, 2), (134, .invokevirtual 131, 3), (137, .iload 6, 2), (139, .if_icmp .ne 7, 3), (142, .iconst 1, 1), (143, .goto 4, 3), (146, .iconst 0, 1), (147, .ireturn, 1)]
def zq_L97 : List (Nat × Instr × Nat) := [(0, .aload_n 0, 1), (1, .getfield 72, 3), (4, .aload_n 0, 1), (5, .getfield 19, 3), (8, .getfield 139, 3), (11, .invokevirtual 142, 3), (14, .istore_n 1, 1), (15, .iconst 0, 1), (16, .istore_n 2, 1), (17, .iload_n 2, 1), (18, .aload_n 0, 1), (19, .getfield 72, 3), (22, .getfield 222, 3), (25, .if_icmp .ge 89, 3), (28, .aload_n 0, 1), (29, .getfield 19, 3), (32, .getfield 139, 3), (35, .iload_n 2, 1), (36, .invokestatic 129, 3), (39, .iconst (-1), 1), (40, .if_icmp .eq 15, 3), (43, .iload_n 1, 1), (44, .iload_n 2, 1), (45, .ishr, 1), (46, .iconst 1, 1), (47, .iand, 1), (48, .ifCond .ne 7, 3), (51, .iconst 1, 1), (52, .goto 4, 3), (55, .iconst 0, 1), (56, .istore_n 3, 1), (57, .aload_n 0, 1), (58, .getfield 72, 3), (61, .getfield 136, 3), (64, .iload_n 2, 1), (65, .invokestatic 129, 3), (68, .istore 4, 2), (70, .iload_n 3, 1), (71, .ifCond .eq 37, 3), (74, .iload 4, 2), (76, .iconst (-1), 1), (77, .if_icmp .eq 31, 3), (80, .iload_n 1, 1), (81, .iload 4, 2), (83, .ishr, 1), (84, .iconst 1, 1), (85, .iand, 1), (86, .iconst 1, 1), (87, .if_icmp .eq 19, 3), (90, .aload_n 0, 1), (91, .getfield 19, 3), (94, .getfield 139, 3), (97, .iload 4, 2), (99, .invokestatic 129, 3), (102, .iconst (-1), 1), (103, .if_icmp .ne 5, 3), (106, .iload_n 2, 1), (107, .ireturn, 1), (108, .iinc 2 1, 3), (111, .goto (-94), 3), (114, .iconst (-1), 1), (115, .ireturn, 1)]
def zq_L98 : List (Nat × Instr × Nat) := [(0, .aload_n 0, 1), (1, .getfield 36, 3), (4, .aload_n 0, 1), (5, .getfield 72, 3), (8, .invokevirtual 225, 3), (11, .iload_n 1, 1), (12, .iconst (-1), 1), (13, .if_icmp .ne 11, 3), (16, .aload_n 0, 1), (17, .getfield 36, 3), (20, .getfield 228, 3), (23, .ireturn, 1), (24, .aload_n 0, 1), (25, .getfield 72, 3), (28, .iload_n 1, 1), (29, .invokevirtual 122, 3), (32, .ifCond .eq 17, 3), (35, .aload_n 0, 1), (36, .getfield 36, 3), (39, .getfield 231, 3), (42, .iload_n 1, 1), (43, .invokestatic 129, 3), (46, .goto 5, 3), (49, .bipush (-2), 2), (51, .ireturn, 1)]
def zq_L99 : List (Nat × Instr × Nat) := [(0, .aload_n 0, 1), (1, .getfield 30, 3), (4, .ifCond .eq 4, 3), (7, .return_, 1), (8, .aload_n 0, 1), (9, .iconst (-1), 1), (10, .putfield 34, 3), (13, .aload_n 0, 1), (14, .lconst 0, 1), (15, .putfield 38, 3), (18, .aload_n 0, 1), (19, .iconst 0, 1), (20, .putfield 42, 3), (23, .aload_n 0, 1), (24, .iconst 0, 1), (25, .putfield 45, 3), (28, .iconst 0, 1), (29, .istore_n 2, 1), (30, .iload_n 2, 1), (31, .sipush 343, 3), (34, .if_icmp .ge 18, 3), (37, .aload_n 0, 1), (38, .getfield 24, 3), (41, .iload_n 2, 1), (42, .iconst 0, 1), (43, .invokestatic 48, 3), (46, .iinc 2 1, 3), (49, .goto (-19), 3), (52, .aload_n 0, 1), (53, .aload_n 1, 1), (54, .iconst 0, 1), (55, .iconst 0, 1), (56, .aload_n 1, 1), (57, .getfield 52, 3), (60, .aload_n 1, 1), (61, .getfield 57, 3), (64, .isub, 1), (65, .invokevirtual 60, 3), (68, .aload_n 0, 1), (69, .iconst 1, 1), (70, .putfield 30, 3), (73, .return_, 1)]
def zq_L100 : List (Nat × Instr × Nat) := [(0, .iload_n 2, 1), (1, .aload_n 1, 1), (2, .getfield 52, 3), (5, .if_icmp .ge 9, 3), (8, .iload_n 2, 1), (9, .bipush 6, 2), (11, .if_icmp .lt 9, 3), (14, .aload_n 0, 1), (15, .aload_n 1, 1), (16, .invokevirtual 64, 3), (19, .return_, 1), (20, .iconst 0, 1), (21, .istore 5, 2), (23, .iload 5, 2), (25, .aload_n 1, 1), (26, .getfield 57, 3), (29, .if_icmp .ge 44, 3), (32, .iload_n 3, 1), (33, .iload 5, 2), (35, .ishr, 1), (36, .iconst 1, 1), (37, .iand, 1), (38, .ifCond .ne 29, 3), (41, .aload_n 0, 1), (42, .getfield 18, 3), (45, .iload_n 2, 1), (46, .iload 5, 2), (48, .invokestatic 48, 3), (51, .aload_n 0, 1), (52, .aload_n 1, 1), (53, .iload_n 2, 1), (54, .iconst 1, 1), (55, .iadd, 1), (56, .iload_n 3, 1), (57, .iconst 1, 1), (58, .iload 5, 2), (60, .ishl, 1), (61, .ior, 1), (62, .iload 4, 2), (64, .invokevirtual 60, 3), (67, .iinc 5 1, 3), (70, .goto (-47), 3), (73, .iload 4, 2), (75, .ifCond .le 25, 3), (78, .aload_n 0, 1), (79, .getfield 18, 3), (82, .iload_n 2, 1), (83, .iconst (-1), 1), (84, .invokestatic 48, 3), (87, .aload_n 0, 1), (88, .aload_n 1, 1), (89, .iload_n 2, 1), (90, .iconst 1, 1), (91, .iadd, 1), (92, .iload_n 3, 1), (93, .iload 4, 2), (95, .iconst 1, 1), (96, .isub, 1), (97, .invokevirtual 60, 3), (100, .return_, 1)]
def zq_L101 : List (Nat × Instr × Nat) := [(0, .aload_n 1, 1), (1, .aload_n 0, 1), (2, .getfield 18, 3), (5, .invokevirtual 68, 3), (8, .istore_n 2, 1), (9, .aload_n 0, 1), (10, .dup, 1), (11, .getfield 42, 3), (14, .iconst 1, 1), (15, .iadd, 1), (16, .putfield 42, 3), (19, .aload_n 0, 1), (20, .dup, 1), (21, .getfield 38, 3), (24, .iload_n 2, 1), (25, .i2l, 1), (26, .ladd, 1), (27, .putfield 38, 3), (30, .iload_n 2, 1), (31, .aload_n 0, 1), (32, .getfield 34, 3), (35, .if_icmp .le 38, 3), (38, .aload_n 0, 1), (39, .iload_n 2, 1), (40, .putfield 34, 3), (43, .iconst 0, 1), (44, .istore_n 3, 1), (45, .iload_n 3, 1), (46, .bipush 6, 2), (48, .if_icmp .ge 25, 3), (51, .aload_n 0, 1), (52, .getfield 9, 3), (55, .iload_n 3, 1), (56, .aload_n 0, 1), (57, .getfield 18, 3), (60, .iload_n 3, 1), (61, .invokestatic 72, 3), (64, .invokestatic 48, 3), (67, .iinc 3 1, 3), (70, .goto (-25), 3), (73, .iconst 0, 1), (74, .istore_n 3, 1), (75, .iconst 0, 1), (76, .istore 4, 2), (78, .iload 4, 2), (80, .iconst 3, 1), (81, .if_icmp .ge 28, 3), (84, .iload_n 3, 1), (85, .bipush 7, 2), (87, .imul, 1), (88, .aload_n 1, 1), (89, .iload_n 2, 1), (90, .aload_n 1, 1), (91, .getfield 76, 3), (94, .iload 4, 2), (96, .invokevirtual 79, 3), (99, .iadd, 1), (100, .iconst 3, 1), (101, .iadd, 1), (102, .istore_n 3, 1), (103, .iinc 4 1, 3), (106, .goto (-28), 3), (109, .aload_n 0, 1), (110, .getfield 24, 3), (113, .iload_n 3, 1), (114, .invokestatic 72, 3), (117, .ifCond .ne 25, 3), (120, .aload_n 0, 1), (121, .getfield 21, 3), (124, .aload_n 0, 1), (125, .getfield 45, 3), (128, .iload_n 3, 1), (129, .invokestatic 48, 3), (132, .aload_n 0, 1), (133, .dup, 1), (134, .getfield 45, 3), (137, .iconst 1, 1), (138, .iadd, 1), (139, .putfield 45, 3), (142, .aload_n 0, 1), (143, .getfield 24, 3), (146, .iload_n 3, 1), (147, .aload_n 0, 1), (148, .getfield 24, 3), (151, .iload_n 3, 1), (152, .invokestatic 72, 3), (155, .iconst 1, 1), (156, .iadd, 1), (157, .invokestatic 48, 3), (160, .return_, 1)]
def zq_L102 : List (Nat × Instr × Nat) := [(0, .aload_n 0, 1), (1, .getfield 36, 3), (4, .aload_n 0, 1), (5, .getfield 72, 3), (8, .invokevirtual 225, 3), (11, .aload_n 0, 1), (12, .getfield 36, 3), (15, .aload_n 0, 1), (16, .getfield 36, 3), (19, .getfield 234, 3), (22, .invokevirtual 238, 3), (25, .ireturn, 1)]
def zq_L103 : List (Nat × Instr × Nat) := [(0, .aload_n 0, 1), (1, .getfield 42, 3), (4, .ifCond .le 18, 3), (7, .lload_n 1, 1), (8, .ldc2_w 83, 3), (11, .lmul, 1), (12, .aload_n 0, 1), (13, .getfield 42, 3), (16, .i2l, 1), (17, .ldiv, 1), (18, .l2i, 1), (19, .goto 4, 3), (22, .iconst 0, 1), (23, .ireturn, 1)]
def zq_L104 : List (Nat × Instr × Nat) := [(0, .aload_n 0, 1), (1, .getfield 36, 3), (4, .aload_n 0, 1), (5, .getfield 72, 3), (8, .invokevirtual 225, 3), (11, .aload_n 0, 1), (12, .getfield 36, 3), (15, .getfield 228, 3), (18, .sipush 1000, 3), (21, .imul, 1), (22, .aload_n 0, 1), (23, .getfield 36, 3), (26, .aload_n 0, 1), (27, .getfield 36, 3), (30, .getfield 234, 3), (33, .invokevirtual 238, 3), (36, .isub, 1), (37, .ireturn, 1)]
def zq_L105 : List (Nat × Instr × Nat) := [(0, .iload_n 1, 1), (1, .iconst 1, 1), (2, .iconst 5, 1), (3, .invokestatic 169, 3), (6, .ifCond .eq 12, 3), (9, .iload_n 2, 1), (10, .iconst 0, 1), (11, .iload_n 1, 1), (12, .invokestatic 169, 3), (15, .ifCond .ne 5, 3), (18, .iconst (-1), 1), (19, .ireturn, 1), (20, .aload_n 0, 1), (21, .getfield 36, 3), (24, .aload_n 0, 1), (25, .getfield 72, 3), (28, .invokevirtual 225, 3), (31, .aload_n 0, 1), (32, .getfield 36, 3), (35, .aload_n 0, 1), (36, .getfield 72, 3), (39, .aload_n 0, 1), (40, .getfield 19, 3), (43, .getfield 216, 3), (46, .iload_n 1, 1), (47, .invokevirtual 242, 3), (50, .lstore_n 3, 1), (51, .iload_n 2, 1), (52, .ifCond .ne 14, 3), (55, .aload_n 0, 1), (56, .getfield 36, 3), (59, .lload_n 3, 1), (60, .invokevirtual 238, 3), (63, .goto 16, 3), (66, .aload_n 0, 1), (67, .getfield 36, 3), (70, .getfield 246, 3), (73, .iload_n 2, 1), (74, .iconst 1, 1), (75, .isub, 1), (76, .invokestatic 129, 3), (79, .ireturn, 1)]
def zq_L106 : List (Nat × Instr × Nat) := [(0, .iconst 3, 1), (1, .iload_n 3, 1), (2, .invokestatic 85, 3), (5, .l2i, 1), (6, .istore 4, 2), (8, .ldc2_w 89, 3), (11, .lstore 5, 2), (13, .iconst 0, 1), (14, .istore 7, 2), (16, .iload 7, 2), (18, .iload 4, 2), (20, .if_icmp .ge 70, 3), (23, .aload_n 0, 1), (24, .iload 7, 2), (26, .iload_n 3, 1), (27, .invokevirtual 91, 3), (30, .aload_n 0, 1), (31, .aload_n 1, 1), (32, .iload_n 2, 1), (33, .iload_n 3, 1), (34, .invokevirtual 95, 3), (37, .lstore 8, 2), (39, .lload 8, 2), (41, .lload 5, 2), (43, .lcmp, 1), (44, .ifCond .le 40, 3), (47, .lload 8, 2), (49, .lstore 5, 2), (51, .iconst 0, 1), (52, .istore 10, 2), (54, .iload 10, 2), (56, .iload_n 3, 1), (57, .if_icmp .ge 27, 3), (60, .aload_n 0, 1), (61, .getfield 15, 3), (64, .iload 10, 2), (66, .aload_n 0, 1), (67, .getfield 27, 3), (70, .iload 10, 2), (72, .invokestatic 72, 3), (75, .invokestatic 48, 3), (78, .iinc 10 1, 3), (81, .goto (-27), 3), (84, .iinc 7 1, 3), (87, .goto (-71), 3), (90, .lload 5, 2), (92, .lreturn, 1)]
def zq_L107 : List (Nat × Instr × Nat) := [(0, .lconst 1, 1), (1, .lstore_n 2, 1), (2, .iconst 0, 1), (3, .istore 4, 2), (5, .iload 4, 2), (7, .iload_n 1, 1), (8, .if_icmp .ge 14, 3), (11, .lload_n 2, 1), (12, .iload_n 0, 1), (13, .i2l, 1), (14, .lmul, 1), (15, .lstore_n 2, 1), (16, .iinc 4 1, 3), (19, .goto (-14), 3), (22, .lload_n 2, 1), (23, .lreturn, 1)]
def zq_L108 : List (Nat × Instr × Nat) := [(0, .iload_n 1, 1), (1, .istore_n 3, 1), (2, .iload_n 2, 1), (3, .iconst 1, 1), (4, .isub, 1), (5, .istore 4, 2), (7, .iload 4, 2), (9, .ifCond .lt 25, 3), (12, .aload_n 0, 1), (13, .getfield 27, 3), (16, .iload 4, 2), (18, .iload_n 3, 1), (19, .iconst 3, 1), (20, .irem, 1), (21, .invokestatic 48, 3), (24, .iload_n 3, 1), (25, .iconst 3, 1), (26, .idiv, 1), (27, .istore_n 3, 1), (28, .iinc 4 (-1), 3), (31, .goto (-24), 3), (34, .return_, 1)]
def zq_L109 : List (Nat × Instr × Nat) := [(0, .lconst 0, 1), (1, .lstore 4, 2), (3, .iconst 0, 1), (4, .istore 6, 2), (6, .iload 6, 2), (8, .aload_n 0, 1), (9, .getfield 45, 3), (12, .if_icmp .ge 79, 3), (15, .aload_n 0, 1), (16, .getfield 21, 3), (19, .iload 6, 2), (21, .invokestatic 72, 3), (24, .istore 7, 2), (26, .iload_n 2, 1), (27, .istore 8, 2), (29, .iconst 0, 1), (30, .istore 9, 2), (32, .iload 9, 2), (34, .iload_n 3, 1), (35, .if_icmp .ge 31, 3), (38, .aload_n 1, 1), (39, .iload 8, 2), (41, .iload 7, 2), (43, .aload_n 0, 1), (44, .getfield 27, 3), (47, .iload 9, 2), (49, .invokestatic 72, 3), (52, .invokestatic 99, 3), (55, .invokevirtual 103, 3), (58, .istore 8, 2), (60, .iinc 9 1, 3), (63, .goto (-31), 3), (66, .lload 4, 2), (68, .iload 8, 2), (70, .i2l, 1), (71, .aload_n 0, 1), (72, .getfield 24, 3), (75, .iload 7, 2), (77, .invokestatic 72, 3), (80, .i2l, 1), (81, .lmul, 1), (82, .ladd, 1), (83, .lstore 4, 2), (85, .iinc 6 1, 3), (88, .goto (-82), 3), (91, .lload 4, 2), (93, .lreturn, 1)]
def zq_L110 : List (Nat × Instr × Nat) := [(0, .iload_n 1, 1), (1, .ifCond .ne 10, 3), (4, .iload_n 0, 1), (5, .bipush 49, 2), (7, .idiv, 1), (8, .goto 16, 3), (11, .iload_n 1, 1), (12, .iconst 1, 1), (13, .if_icmp .ne 10, 3), (16, .iload_n 0, 1), (17, .bipush 7, 2), (19, .idiv, 1), (20, .goto 4, 3), (23, .iload_n 0, 1), (24, .istore_n 2, 1), (25, .iload_n 2, 1), (26, .bipush 7, 2), (28, .irem, 1), (29, .iconst 3, 1), (30, .isub, 1), (31, .ireturn, 1)]
def zq_L111 : List (Nat × Instr × Nat) := [(0, .aload_n 0, 1), (1, .getfield 72, 3), (4, .iload_n 1, 1), (5, .invokevirtual 146, 3), (8, .ifCond .ne 6, 3), (11, .bipush (-2), 2), (13, .ireturn, 1), (14, .aload_n 0, 1), (15, .getfield 43, 3), (18, .aload_n 0, 1), (19, .getfield 72, 3), (22, .aload_n 0, 1), (23, .getfield 19, 3), (26, .invokevirtual 249, 3), (29, .aload_n 0, 1), (30, .getfield 43, 3), (33, .getfield 252, 3), (36, .iload_n 1, 1), (37, .invokestatic 129, 3), (40, .ireturn, 1)]
def zq_L112 : List (Nat × Instr × Nat) := [(0, .iconst 0, 1), (1, .istore_n 3, 1), (2, .iconst 0, 1), (3, .istore 4, 2), (5, .iload 4, 2), (7, .aload_n 1, 1), (8, .getfield 27, 3), (11, .if_icmp .ge 36, 3), (14, .aload_n 0, 1), (15, .getfield 9, 3), (18, .iload 4, 2), (20, .iconst (-1), 1), (21, .invokestatic 33, 3), (24, .aload_n 2, 1), (25, .iload 4, 2), (27, .invokevirtual 37, 3), (30, .iconst (-1), 1), (31, .if_icmp .eq 10, 3), (34, .iload_n 3, 1), (35, .iconst 1, 1), (36, .iload 4, 2), (38, .ishl, 1), (39, .ior, 1), (40, .istore_n 3, 1), (41, .iinc 4 1, 3), (44, .goto (-39), 3), (47, .iconst 0, 1), (48, .istore 4, 2), (50, .iload 4, 2), (52, .aload_n 1, 1), (53, .getfield 27, 3), (56, .if_icmp .ge 44, 3), (59, .bipush 6, 2), (61, .istore 5, 2), (63, .iload 5, 2), (65, .ifCond .le 29, 3), (68, .iload_n 3, 1), (69, .iload 4, 2), (71, .ishr, 1), (72, .iconst 1, 1), (73, .iand, 1), (74, .iconst 1, 1), (75, .if_icmp .ne 19, 3), (78, .aload_n 0, 1), (79, .aload_n 1, 1), (80, .aload_n 2, 1), (81, .iload 4, 2), (83, .iload_n 3, 1), (84, .invokevirtual 43, 3), (87, .istore_n 3, 1), (88, .iinc 5 (-1), 3), (91, .goto (-28), 3), (94, .iinc 4 1, 3), (97, .goto (-47), 3), (100, .return_, 1)]
def zq_L113 : List (Nat × Instr × Nat) := [(0, .iload_n 3, 1), (1, .istore 5, 2), (3, .iconst 0, 1), (4, .istore 6, 2), (6, .iload 6, 2), (8, .bipush 6, 2), (10, .if_icmp .ge 27, 3), (13, .aload_n 2, 1), (14, .getfield 47, 3), (17, .aload_n 1, 1), (18, .aload_n 2, 1), (19, .iload 5, 2), (21, .iload 4, 2), (23, .invokestatic 50, 3), (26, .invokestatic 53, 3), (29, .istore 5, 2), (31, .iinc 6 1, 3), (34, .goto (-28), 3), (37, .iload 4, 2), (39, .istore 6, 2), (41, .iconst 0, 1), (42, .istore 7, 2), (44, .iload 7, 2), (46, .bipush 6, 2), (48, .if_icmp .ge 64, 3), (51, .iload 6, 2), (53, .iload 5, 2), (55, .ishr, 1), (56, .iconst 1, 1), (57, .iand, 1), (58, .iconst 1, 1), (59, .if_icmp .ne 53, 3), (62, .aload_n 1, 1), (63, .aload_n 2, 1), (64, .iload 5, 2), (66, .iload 4, 2), (68, .invokestatic 50, 3), (71, .istore 8, 2), (73, .aload_n 0, 1), (74, .getfield 9, 3), (77, .iload 5, 2), (79, .iload 8, 2), (81, .invokestatic 33, 3), (84, .iload 6, 2), (86, .iconst 1, 1), (87, .iload 5, 2), (89, .ishl, 1), (90, .iconst (-1), 1), (91, .ixor, 1), (92, .iand, 1), (93, .istore 6, 2), (95, .aload_n 2, 1), (96, .getfield 47, 3), (99, .iload 8, 2), (101, .invokestatic 53, 3), (104, .istore 5, 2), (106, .iinc 7 1, 3), (109, .goto (-65), 3), (112, .iload 6, 2), (114, .ireturn, 1)]
def zq_L114 : List (Nat × Instr × Nat) := [(0, .iconst (-1), 1), (1, .istore 4, 2), (3, .iconst 0, 1), (4, .istore 5, 2), (6, .iload 5, 2), (8, .aload_n 0, 1), (9, .getfield 57, 3), (12, .if_icmp .ge 75, 3), (15, .aload_n 1, 1), (16, .getfield 47, 3), (19, .iload 5, 2), (21, .invokestatic 53, 3), (24, .istore 6, 2), (26, .iload 6, 2), (28, .iconst (-1), 1), (29, .if_icmp .eq 17, 3), (32, .iload_n 3, 1), (33, .iload 6, 2), (35, .ishr, 1), (36, .iconst 1, 1), (37, .iand, 1), (38, .iconst 1, 1), (39, .if_icmp .ne 7, 3), (42, .iconst 1, 1), (43, .goto 4, 3), (46, .iconst 0, 1), (47, .istore 7, 2), (49, .iload 7, 2), (51, .ifCond .eq 30, 3), (54, .iload 4, 2), (56, .iconst (-1), 1), (57, .if_icmp .eq 20, 3), (60, .aload_n 0, 1), (61, .iload_n 2, 1), (62, .iload 5, 2), (64, .invokevirtual 60, 3), (67, .aload_n 0, 1), (68, .iload_n 2, 1), (69, .iload 4, 2), (71, .invokevirtual 60, 3), (74, .if_icmp .le 7, 3), (77, .iload 5, 2), (79, .istore 4, 2), (81, .iinc 5 1, 3), (84, .goto (-78), 3), (87, .iload 4, 2), (89, .ireturn, 1)]
def zq_L115 : List (Nat × Instr × Nat) := [(0, .aload_n 0, 1), (1, .iload_n 1, 1), (2, .invokevirtual 234, 3), (5, .ifCond .eq 27, 3), (8, .aload_n 0, 1), (9, .iload_n 2, 1), (10, .invokevirtual 237, 3), (13, .ifCond .eq 19, 3), (16, .aload_n 0, 1), (17, .getfield 56, 3), (20, .iload_n 1, 1), (21, .bipush 6, 2), (23, .imul, 1), (24, .iload_n 2, 1), (25, .iadd, 1), (26, .invokestatic 226, 3), (29, .goto 4, 3), (32, .iconst 0, 1), (33, .ireturn, 1)]
def zq_L116 : List (Nat × Instr × Nat) := [(0, .aload_n 0, 1), (1, .getfield 43, 3), (4, .aload_n 0, 1), (5, .getfield 72, 3), (8, .aload_n 0, 1), (9, .getfield 19, 3), (12, .invokevirtual 249, 3), (15, .iconst 0, 1), (16, .istore_n 1, 1), (17, .iconst 0, 1), (18, .istore_n 2, 1), (19, .iload_n 2, 1), (20, .aload_n 0, 1), (21, .getfield 72, 3), (24, .getfield 255, 3), (27, .if_icmp .ge 37, 3), (30, .aload_n 0, 1), (31, .getfield 43, 3), (34, .getfield 252, 3), (37, .iload_n 2, 1), (38, .invokestatic 129, 3), (41, .aload_n 0, 1), (42, .getfield 19, 3), (45, .iload_n 2, 1), (46, .invokevirtual 158, 3), (49, .if_icmp .eq 9, 3), (52, .iload_n 1, 1), (53, .iconst 1, 1), (54, .iload_n 2, 1), (55, .ishl, 1), (56, .ior, 1), (57, .istore_n 1, 1), (58, .iinc 2 1, 3), (61, .goto (-42), 3), (64, .iload_n 1, 1), (65, .ireturn, 1)]
def zq_L117 : List (Nat × Instr × Nat) := [(0, .aload_n 0, 1), (1, .iload_n 1, 1), (2, .invokevirtual 258, 3), (5, .ifCond .eq 22, 3), (8, .aload_n 0, 1), (9, .getfield 43, 3), (12, .aload_n 0, 1), (13, .getfield 72, 3), (16, .aload_n 0, 1), (17, .getfield 19, 3), (20, .iload_n 1, 1), (21, .invokevirtual 261, 3), (24, .goto 4, 3), (27, .iconst (-1), 1), (28, .ireturn, 1)]
def zq_L118 : List (Nat × Instr × Nat) := [(0, .iload_n 1, 1), (1, .ifCond .le 16, 3), (4, .iload_n 1, 1), (5, .iconst 1, 1), (6, .aload_n 0, 1), (7, .getfield 72, 3), (10, .getfield 255, 3), (13, .ishl, 1), (14, .if_icmp .lt 5, 3), (17, .iconst 0, 1), (18, .ireturn, 1), (19, .iconst 0, 1), (20, .istore_n 2, 1), (21, .iload_n 2, 1), (22, .aload_n 0, 1), (23, .getfield 72, 3), (26, .getfield 255, 3), (29, .if_icmp .ge 32, 3), (32, .iload_n 1, 1), (33, .iload_n 2, 1), (34, .ishr, 1), (35, .iconst 1, 1), (36, .iand, 1), (37, .iconst 1, 1), (38, .if_icmp .ne 17, 3), (41, .aload_n 0, 1), (42, .getfield 19, 3), (45, .iload_n 2, 1), (46, .invokevirtual 158, 3), (49, .iconst (-1), 1), (50, .if_icmp .ne 5, 3), (53, .iconst 0, 1), (54, .ireturn, 1), (55, .iinc 2 1, 3), (58, .goto (-37), 3), (61, .iconst 1, 1), (62, .ireturn, 1)]
def zq_L119 : List (Nat × Instr × Nat) := [(0, .iconst 0, 1), (1, .istore 4, 2), (3, .iconst 0, 1), (4, .istore 5, 2), (6, .iload 5, 2), (8, .aload_n 1, 1), (9, .getfield 27, 3), (12, .if_icmp .ge 48, 3), (15, .iload_n 3, 1), (16, .iload 5, 2), (18, .ishr, 1), (19, .iconst 1, 1), (20, .iand, 1), (21, .iconst 1, 1), (22, .if_icmp .ne 32, 3), (25, .aload_n 0, 1), (26, .getfield 15, 3), (29, .iload 4, 2), (31, .iload 5, 2), (33, .invokestatic 33, 3), (36, .aload_n 0, 1), (37, .getfield 18, 3), (40, .iload 4, 2), (42, .aload_n 2, 1), (43, .iload 5, 2), (45, .invokevirtual 37, 3), (48, .invokestatic 33, 3), (51, .iinc 4 1, 3), (54, .iinc 5 1, 3), (57, .goto (-51), 3), (60, .aload_n 0, 1), (61, .getfield 21, 3), (64, .iconst 0, 1), (65, .iconst 0, 1), (66, .invokestatic 33, 3), (69, .iconst 1, 1), (70, .istore 5, 2), (72, .iload 5, 2), (74, .iconst 1, 1), (75, .iload 4, 2), (77, .ishl, 1), (78, .if_icmp .ge 107, 3), (81, .aload_n 0, 1), (82, .getfield 15, 3), (85, .iload 5, 2), (87, .invokestatic 64, 3), (90, .iconst 1, 1), (91, .isub, 1), (92, .invokestatic 53, 3), (95, .istore 6, 2), (97, .iconst 0, 1), (98, .istore 7, 2), (100, .iconst 0, 1), (101, .istore 8, 2), (103, .iload 8, 2), (105, .iload 4, 2), (107, .if_icmp .ge 61, 3), (110, .iload 5, 2), (112, .iload 8, 2), (114, .ishr, 1), (115, .iconst 1, 1), (116, .iand, 1), (117, .iconst 1, 1), (118, .if_icmp .ne 44, 3), (121, .aload_n 0, 1), (122, .getfield 21, 3), (125, .iload 5, 2), (127, .iconst 1, 1), (128, .iload 8, 2), (130, .ishl, 1), (131, .ixor, 1), (132, .invokestatic 53, 3), (135, .aload_n 1, 1), (136, .iload 6, 2), (138, .aload_n 0, 1), (139, .getfield 18, 3), (142, .iload 8, 2), (144, .invokestatic 53, 3), (147, .invokevirtual 69, 3), (150, .iadd, 1), (151, .istore 9, 2), (153, .iload 7, 2), (155, .iload 9, 2), (157, .invokestatic 72, 3), (160, .istore 7, 2), (162, .iinc 8 1, 3), (165, .goto (-62), 3), (168, .aload_n 0, 1), (169, .getfield 21, 3), (172, .iload 5, 2), (174, .iload 7, 2), (176, .invokestatic 33, 3), (179, .iinc 5 1, 3), (182, .goto (-110), 3), (185, .aload_n 0, 1), (186, .getfield 21, 3), (189, .iconst 1, 1), (190, .iload 4, 2), (192, .ishl, 1), (193, .iconst 1, 1), (194, .isub, 1), (195, .invokestatic 53, 3), (198, .ireturn, 1)]
def zq_L120 : List (Nat × Instr × Nat) := [(0, .iload_n 0, 1), (1, .iload_n 0, 1), (2, .iconst 1, 1), (3, .iushr, 1), (4, .ldc_w 265, 3), (7, .iand, 1), (8, .isub, 1), (9, .istore_n 0, 1), (10, .iload_n 0, 1), (11, .ldc_w 266, 3), (14, .iand, 1), (15, .iload_n 0, 1), (16, .iconst 2, 1), (17, .iushr, 1), (18, .ldc_w 266, 3), (21, .iand, 1), (22, .iadd, 1), (23, .istore_n 0, 1), (24, .iload_n 0, 1), (25, .iload_n 0, 1), (26, .iconst 4, 1), (27, .iushr, 1), (28, .iadd, 1), (29, .ldc_w 267, 3), (32, .iand, 1), (33, .istore_n 0, 1), (34, .iload_n 0, 1), (35, .iload_n 0, 1), (36, .bipush 8, 2), (38, .iushr, 1), (39, .iadd, 1), (40, .istore_n 0, 1), (41, .iload_n 0, 1), (42, .iload_n 0, 1), (43, .bipush 16, 2), (45, .iushr, 1), (46, .iadd, 1), (47, .istore_n 0, 1), (48, .iload_n 0, 1), (49, .bipush 63, 2), (51, .iand, 1), (52, .ireturn, 1)]
def zq_L121 : List (Nat × Instr × Nat) := [(0, .aload_n 0, 1), (1, .iload_n 1, 1), (2, .invokevirtual 258, 3), (5, .ifCond .eq 22, 3), (8, .aload_n 0, 1), (9, .getfield 72, 3), (12, .iload_n 2, 1), (13, .invokevirtual 146, 3), (16, .ifCond .eq 11, 3), (19, .iload_n 1, 1), (20, .iload_n 2, 1), (21, .ishr, 1), (22, .iconst 1, 1), (23, .iand, 1), (24, .ifCond .ne 5, 3), (27, .iconst (-1), 1), (28, .ireturn, 1), (29, .aload_n 0, 1), (30, .getfield 43, 3), (33, .aload_n 0, 1), (34, .getfield 72, 3), (37, .aload_n 0, 1), (38, .getfield 19, 3), (41, .iload_n 1, 1), (42, .iload_n 2, 1), (43, .invokevirtual 265, 3), (46, .ireturn, 1)]
def zq_L122 : List (Nat × Instr × Nat) := [(0, .iconst 0, 1), (1, .istore 5, 2), (3, .iload 5, 2), (5, .bipush 64, 2), (7, .if_icmp .ge 39, 3), (10, .aload_n 0, 1), (11, .getfield 24, 3), (14, .iload 5, 2), (16, .iload 5, 2), (18, .iload_n 3, 1), (19, .iconst (-1), 1), (20, .ixor, 1), (21, .iand, 1), (22, .ifCond .ne 14, 3), (25, .aload_n 0, 1), (26, .aload_n 1, 1), (27, .aload_n 2, 1), (28, .iload 5, 2), (30, .invokevirtual 77, 3), (33, .goto 4, 3), (36, .iconst 0, 1), (37, .invokestatic 33, 3), (40, .iinc 5 1, 3), (43, .goto (-40), 3), (46, .iload_n 3, 1), (47, .invokestatic 64, 3), (50, .istore 5, 2), (52, .lconst 0, 1), (53, .lstore 6, 2), (55, .iconst 0, 1), (56, .istore 8, 2), (58, .iload 8, 2), (60, .bipush 64, 2), (62, .if_icmp .ge 98, 3), (65, .iload 8, 2), (67, .iload_n 3, 1), (68, .iconst (-1), 1), (69, .ixor, 1), (70, .iand, 1), (71, .ifCond .ne 17, 3), (74, .iload 8, 2), (76, .iload 4, 2), (78, .ishr, 1), (79, .iconst 1, 1), (80, .iand, 1), (81, .ifCond .ne 7, 3), (84, .iconst 1, 1), (85, .goto 4, 3), (88, .iconst 0, 1), (89, .istore 9, 2), (91, .iload 9, 2), (93, .ifCond .eq 61, 3), (96, .iload 8, 2), (98, .invokestatic 64, 3), (101, .istore 10, 2), (103, .aload_n 0, 1), (104, .getfield 24, 3), (107, .iload 8, 2), (109, .iconst 1, 1), (110, .iload 4, 2), (112, .ishl, 1), (113, .ior, 1), (114, .invokestatic 53, 3), (117, .aload_n 0, 1), (118, .getfield 24, 3), (121, .iload 8, 2), (123, .invokestatic 53, 3), (126, .isub, 1), (127, .istore 11, 2), (129, .lload 6, 2), (131, .iload 11, 2), (133, .i2l, 1), (134, .iload 10, 2), (136, .invokestatic 81, 3), (139, .lmul, 1), (140, .iload 5, 2), (142, .iconst 1, 1), (143, .isub, 1), (144, .iload 10, 2), (146, .isub, 1), (147, .invokestatic 81, 3), (150, .lmul, 1), (151, .ladd, 1), (152, .lstore 6, 2), (154, .iinc 8 1, 3), (157, .goto (-99), 3), (160, .iload 5, 2), (162, .invokestatic 81, 3), (165, .lstore 8, 2), (167, .lload 8, 2), (169, .lconst 0, 1), (170, .lcmp, 1), (171, .ifCond .le 16, 3), (174, .lload 6, 2), (176, .ldc2_w 85, 3), (179, .lmul, 1), (180, .lload 8, 2), (182, .ldiv, 1), (183, .l2i, 1), (184, .goto 4, 3), (187, .iconst 0, 1), (188, .ireturn, 1)]
def zq_L123 : List (Nat × Instr × Nat) := [(0, .lconst 1, 1), (1, .lstore_n 1, 1), (2, .iconst 2, 1), (3, .istore_n 3, 1), (4, .iload_n 3, 1), (5, .iload_n 0, 1), (6, .if_icmp .gt 14, 3), (9, .lload_n 1, 1), (10, .iload_n 3, 1), (11, .i2l, 1), (12, .lmul, 1), (13, .lstore_n 1, 1), (14, .iinc 3 1, 3), (17, .goto (-13), 3), (20, .lload_n 1, 1), (21, .lreturn, 1)]
def zq_L124 : List (Nat × Instr × Nat) := [(0, .aload_n 0, 1), (1, .getfield 72, 3), (4, .iload_n 1, 1), (5, .invokevirtual 146, 3), (8, .ifCond .eq 26, 3), (11, .aload_n 0, 1), (12, .getfield 72, 3), (15, .iload_n 2, 1), (16, .invokevirtual 122, 3), (19, .ifCond .eq 15, 3), (22, .aload_n 0, 1), (23, .getfield 29, 3), (26, .getfield 269, 3), (29, .bipush 8, 2), (31, .if_icmp .lt 5, 3), (34, .iconst 0, 1), (35, .ireturn, 1), (36, .aload_n 0, 1), (37, .getfield 29, 3), (40, .getfield 272, 3), (43, .aload_n 0, 1), (44, .getfield 29, 3), (47, .getfield 269, 3), (50, .iload_n 1, 1), (51, .invokestatic 275, 3), (54, .aload_n 0, 1), (55, .getfield 29, 3), (58, .getfield 279, 3), (61, .aload_n 0, 1), (62, .getfield 29, 3), (65, .getfield 269, 3), (68, .iload_n 2, 1), (69, .invokestatic 275, 3), (72, .aload_n 0, 1), (73, .getfield 29, 3), (76, .dup, 1), (77, .getfield 269, 3), (80, .iconst 1, 1), (81, .iadd, 1), (82, .putfield 269, 3), (85, .iconst 1, 1), (86, .ireturn, 1)]
def zq_L125 : List (Nat × Instr × Nat) := [(0, .aload_n 0, 1), (1, .iload_n 1, 1), (2, .iload_n 2, 1), (3, .invokevirtual 282, 3), (6, .ifCond .ne 5, 3), (9, .iconst (-1), 1), (10, .ireturn, 1), (11, .aload_n 0, 1), (12, .iload_n 1, 1), (13, .iload_n 2, 1), (14, .iconst 0, 1), (15, .invokevirtual 286, 3), (18, .ireturn, 1)]
def zq_L126 : List (Nat × Instr × Nat) := [(0, .aload_n 0, 1), (1, .getfield 72, 3), (4, .iload_n 1, 1), (5, .invokevirtual 146, 3), (8, .ifCond .eq 28, 3), (11, .iload_n 2, 1), (12, .iconst 1, 1), (13, .bipush 9, 2), (15, .invokestatic 169, 3), (18, .ifCond .eq 18, 3), (21, .aload_n 0, 1), (22, .getfield 29, 3), (25, .iload_n 1, 1), (26, .invokevirtual 343, 3), (29, .ifCond .le 7, 3), (32, .iconst 1, 1), (33, .goto 4, 3), (36, .iconst 0, 1), (37, .ireturn, 1)]
def zq_L127 : List (Nat × Instr × Nat) := [(0, .iconst 0, 1), (1, .istore_n 2, 1), (2, .iconst 0, 1), (3, .istore_n 3, 1), (4, .iload_n 3, 1), (5, .aload_n 0, 1), (6, .getfield 25, 3), (9, .if_icmp .ge 24, 3), (12, .aload_n 0, 1), (13, .getfield 15, 3), (16, .iload_n 3, 1), (17, .invokestatic 28, 3), (20, .iload_n 1, 1), (21, .if_icmp .ne 6, 3), (24, .iinc 2 1, 3), (27, .iinc 3 1, 3), (30, .goto (-26), 3), (33, .iload_n 2, 1), (34, .ireturn, 1)]
def zq_L128 : List (Nat × Instr × Nat) := [(0, .aload_n 0, 1), (1, .getfield 29, 3), (4, .iload_n 1, 1), (5, .invokevirtual 343, 3), (8, .iload_n 3, 1), (9, .iadd, 1), (10, .istore 4, 2), (12, .iload_n 3, 1), (13, .istore 5, 2), (15, .iconst 0, 1), (16, .istore 6, 2), (18, .iload 6, 2), (20, .aload_n 0, 1), (21, .getfield 29, 3), (24, .getfield 269, 3), (27, .if_icmp .ge 54, 3), (30, .aload_n 0, 1), (31, .getfield 29, 3), (34, .getfield 272, 3), (37, .iload 6, 2), (39, .invokestatic 129, 3), (42, .iload_n 1, 1), (43, .if_icmp .ne 32, 3), (46, .aload_n 0, 1), (47, .getfield 72, 3), (50, .getfield 133, 3), (53, .aload_n 0, 1), (54, .getfield 29, 3), (57, .getfield 279, 3), (60, .iload 6, 2), (62, .invokestatic 129, 3), (65, .invokestatic 129, 3), (68, .iload_n 2, 1), (69, .if_icmp .lt 6, 3), (72, .iinc 5 1, 3), (75, .iinc 6 1, 3), (78, .goto (-60), 3), (81, .iconst 0, 1), (82, .istore 6, 2), (84, .iconst 0, 1), (85, .istore 7, 2), (87, .iload 7, 2), (89, .aload_n 0, 1), (90, .getfield 72, 3), (93, .getfield 222, 3), (96, .if_icmp .ge 40, 3), (99, .iload 7, 2), (101, .aload_n 0, 1), (102, .getfield 72, 3), (105, .getfield 255, 3), (108, .if_icmp .ge 28, 3), (111, .aload_n 0, 1), (112, .getfield 72, 3), (115, .getfield 133, 3), (118, .iload 7, 2), (120, .invokestatic 129, 3), (123, .iload_n 2, 1), (124, .if_icmp .lt 6, 3), (127, .iinc 6 1, 3), (130, .iinc 7 1, 3), (133, .goto (-46), 3), (136, .aload_n 0, 1), (137, .getfield 72, 3), (140, .getfield 255, 3), (143, .iload 4, 2), (145, .invokestatic 346, 3), (148, .lstore 7, 2), (150, .lload 7, 2), (152, .lconst 0, 1), (153, .lcmp, 1), (154, .ifCond .le 33, 3), (157, .iload 6, 2), (159, .aload_n 0, 1), (160, .getfield 72, 3), (163, .getfield 255, 3), (166, .iload 6, 2), (168, .isub, 1), (169, .iload 4, 2), (171, .iload 5, 2), (173, .invokestatic 350, 3), (176, .ldc2_w 354, 3), (179, .lmul, 1), (180, .lload 7, 2), (182, .ldiv, 1), (183, .l2i, 1), (184, .goto 4, 3), (187, .iconst (-1), 1), (188, .ireturn, 1)]
def zq_L129 : List (Nat × Instr × Nat) := [(0, .lconst 0, 1), (1, .lstore 4, 2), (3, .lconst 1, 1), (4, .lstore 6, 2), (6, .iconst 0, 1), (7, .istore 8, 2), (9, .iload 8, 2), (11, .iload_n 2, 1), (12, .if_icmp .gt 54, 3), (15, .iload 8, 2), (17, .iload_n 3, 1), (18, .if_icmp .lt 26, 3), (21, .lload 4, 2), (23, .lload 6, 2), (25, .iload_n 0, 1), (26, .iload 8, 2), (28, .invokestatic 346, 3), (31, .lmul, 1), (32, .iload_n 1, 1), (33, .iload_n 2, 1), (34, .iload 8, 2), (36, .isub, 1), (37, .invokestatic 346, 3), (40, .lmul, 1), (41, .ladd, 1), (42, .lstore 4, 2), (44, .lload 6, 2), (46, .iload_n 2, 1), (47, .iload 8, 2), (49, .isub, 1), (50, .i2l, 1), (51, .lmul, 1), (52, .iload 8, 2), (54, .iconst 1, 1), (55, .iadd, 1), (56, .i2l, 1), (57, .ldiv, 1), (58, .lstore 6, 2), (60, .iinc 8 1, 3), (63, .goto (-54), 3), (66, .lload 4, 2), (68, .lreturn, 1)]
def zq_L130 : List (Nat × Instr × Nat) := [(0, .aload_n 0, 1), (1, .iload_n 1, 1), (2, .iload_n 2, 1), (3, .invokevirtual 282, 3), (6, .ifCond .eq 14, 3), (9, .iload_n 3, 1), (10, .iconst 1, 1), (11, .ldc_w 290, 3), (14, .invokestatic 169, 3), (17, .ifCond .ne 5, 3), (20, .iconst (-1), 1), (21, .ireturn, 1), (22, .iconst 0, 1), (23, .istore 4, 2), (25, .iload 4, 2), (27, .bipush 8, 2), (29, .if_icmp .gt 24, 3), (32, .aload_n 0, 1), (33, .iload_n 1, 1), (34, .iload_n 2, 1), (35, .iload 4, 2), (37, .invokevirtual 286, 3), (40, .iload_n 3, 1), (41, .if_icmp .ge 6, 3), (44, .iload 4, 2), (46, .ireturn, 1), (47, .iinc 4 1, 3), (50, .goto (-25), 3), (53, .iconst (-1), 1), (54, .ireturn, 1)]
def zq_L131 : List (Nat × Instr × Nat) := [(0, .iload_n 1, 1), (1, .iconst 0, 1), (2, .aload_n 0, 1), (3, .getfield 72, 3), (6, .getfield 291, 3), (9, .invokestatic 169, 3), (12, .ifCond .eq 14, 3), (15, .aload_n 0, 1), (16, .getfield 29, 3), (19, .getfield 294, 3), (22, .iconst 5, 1), (23, .if_icmp .lt 5, 3), (26, .iconst 0, 1), (27, .ireturn, 1), (28, .aload_n 0, 1), (29, .getfield 29, 3), (32, .getfield 297, 3), (35, .aload_n 0, 1), (36, .getfield 29, 3), (39, .getfield 294, 3), (42, .iload_n 1, 1), (43, .invokestatic 275, 3), (46, .aload_n 0, 1), (47, .getfield 29, 3), (50, .dup, 1), (51, .getfield 294, 3), (54, .iconst 1, 1), (55, .iadd, 1), (56, .putfield 294, 3), (59, .iconst 1, 1), (60, .ireturn, 1)]
def zq_L132 : List (Nat × Instr × Nat) := [(0, .aload_n 0, 1), (1, .invokevirtual 300, 3), (4, .istore_n 2, 1), (5, .iload_n 1, 1), (6, .iconst (-1), 1), (7, .if_icmp .ne 5, 3), (10, .iload_n 2, 1), (11, .ireturn, 1), (12, .iload_n 2, 1), (13, .ifCond .le 31, 3), (16, .iload_n 1, 1), (17, .iconst 0, 1), (18, .aload_n 0, 1), (19, .getfield 29, 3), (22, .getfield 294, 3), (25, .iconst 1, 1), (26, .isub, 1), (27, .invokestatic 169, 3), (30, .ifCond .eq 14, 3), (33, .aload_n 0, 1), (34, .getfield 65, 3), (37, .iload_n 1, 1), (38, .invokestatic 129, 3), (41, .goto 5, 3), (44, .bipush (-2), 2), (46, .ireturn, 1)]
def zq_L133 : List (Nat × Instr × Nat) := [(0, .aload_n 0, 1), (1, .getfield 72, 3), (4, .aload_n 0, 1), (5, .getfield 19, 3), (8, .getfield 139, 3), (11, .invokevirtual 166, 3), (14, .istore_n 1, 1), (15, .iconst 1, 1), (16, .istore_n 2, 1), (17, .aload_n 0, 1), (18, .getfield 19, 3), (21, .getfield 216, 3), (24, .istore_n 3, 1), (25, .iconst 0, 1), (26, .istore 4, 2), (28, .iload 4, 2), (30, .aload_n 0, 1), (31, .getfield 29, 3), (34, .getfield 294, 3), (37, .if_icmp .ge 92, 3), (40, .aload_n 0, 1), (41, .getfield 29, 3), (44, .getfield 297, 3), (47, .iload 4, 2), (49, .invokestatic 129, 3), (52, .istore 5, 2), (54, .iconst 0, 1), (55, .istore 6, 2), (57, .iconst 2, 1), (58, .istore 7, 2), (60, .iload 7, 2), (62, .ifCond .lt 53, 3), (65, .aload_n 0, 1), (66, .getfield 72, 3), (69, .iload_n 3, 1), (70, .aload_n 0, 1), (71, .getfield 72, 3), (74, .iload_n 1, 1), (75, .aload_n 0, 1), (76, .getfield 72, 3), (79, .getfield 356, 3), (82, .iload 7, 2), (84, .invokevirtual 313, 3), (87, .invokevirtual 359, 3), (90, .iload 5, 2), (92, .if_icmp .ne 17, 3), (95, .iinc 6 1, 3), (98, .aload_n 0, 1), (99, .getfield 65, 3), (102, .iload 4, 2), (104, .iload 7, 2), (106, .invokestatic 275, 3), (109, .iinc 7 (-1), 3), (112, .goto (-52), 3), (115, .iload_n 2, 1), (116, .iload 6, 2), (118, .imul, 1), (119, .istore_n 2, 1), (120, .iload 5, 2), (122, .istore_n 3, 1), (123, .iinc 4 1, 3), (126, .goto (-98), 3), (129, .iload_n 2, 1), (130, .ireturn, 1)]
def zq_L134 : List (Nat × Instr × Nat) := [(0, .iload_n 1, 1), (1, .iconst 0, 1), (2, .iconst 1, 1), (3, .invokestatic 169, 3), (6, .ifCond .ne 6, 3), (9, .bipush (-2), 2), (11, .ireturn, 1), (12, .aload_n 0, 1), (13, .getfield 19, 3), (16, .getfield 216, 3), (19, .ifCond .le 20, 3), (22, .aload_n 0, 1), (23, .getfield 19, 3), (26, .getfield 216, 3), (29, .aload_n 0, 1), (30, .getfield 72, 3), (33, .getfield 291, 3), (36, .if_icmp .lt 7, 3), (39, .iconst 1, 1), (40, .goto 4, 3), (43, .iconst 0, 1), (44, .istore_n 2, 1), (45, .iload_n 2, 1), (46, .ifCond .eq 23, 3), (49, .iload_n 1, 1), (50, .ifCond .ne 17, 3), (53, .aload_n 0, 1), (54, .getfield 19, 3), (57, .getfield 216, 3), (60, .ifCond .gt 7, 3), (63, .iconst 0, 1), (64, .goto 4, 3), (67, .iconst (-1), 1), (68, .ireturn, 1), (69, .aload_n 0, 1), (70, .getfield 72, 3), (73, .aload_n 0, 1), (74, .getfield 19, 3), (77, .getfield 139, 3), (80, .invokevirtual 166, 3), (83, .istore_n 3, 1), (84, .aload_n 0, 1), (85, .iload_n 3, 1), (86, .invokevirtual 304, 3), (89, .iload_n 1, 1), (90, .ifCond .ne 20, 3), (93, .aload_n 0, 1), (94, .getfield 65, 3), (97, .aload_n 0, 1), (98, .getfield 19, 3), (101, .getfield 216, 3), (104, .invokestatic 129, 3), (107, .goto 8, 3), (110, .aload_n 0, 1), (111, .iload_n 3, 1), (112, .invokevirtual 307, 3), (115, .ireturn, 1)]
def zq_L135 : List (Nat × Instr × Nat) := [(0, .iconst 0, 1), (1, .istore_n 2, 1), (2, .iconst 0, 1), (3, .istore_n 3, 1), (4, .iload_n 3, 1), (5, .iconst 3, 1), (6, .if_icmp .ge 38, 3), (9, .iload_n 2, 1), (10, .ifCond .ne 22, 3), (13, .aload_n 0, 1), (14, .getfield 72, 3), (17, .iload_n 1, 1), (18, .aload_n 0, 1), (19, .getfield 72, 3), (22, .getfield 356, 3), (25, .iload_n 3, 1), (26, .invokevirtual 313, 3), (29, .ifCond .lt 7, 3), (32, .iconst 1, 1), (33, .goto 4, 3), (36, .iconst 0, 1), (37, .istore_n 2, 1), (38, .iinc 3 1, 3), (41, .goto (-37), 3), (44, .aload_n 0, 1), (45, .getfield 65, 3), (48, .iconst 0, 1), (49, .iconst 0, 1), (50, .invokestatic 275, 3), (53, .iconst 1, 1), (54, .istore_n 3, 1), (55, .iload_n 3, 1), (56, .aload_n 0, 1), (57, .getfield 72, 3), (60, .getfield 291, 3), (63, .if_icmp .gt 105, 3), (66, .iconst 0, 1), (67, .istore 4, 2), (69, .iconst 0, 1), (70, .istore 5, 2), (72, .iload 5, 2), (74, .iconst 3, 1), (75, .if_icmp .ge 58, 3), (78, .iload_n 2, 1), (79, .ifCond .ne 54, 3), (82, .aload_n 0, 1), (83, .getfield 72, 3), (86, .iload_n 3, 1), (87, .aload_n 0, 1), (88, .getfield 72, 3), (91, .iload_n 1, 1), (92, .aload_n 0, 1), (93, .getfield 72, 3), (96, .getfield 356, 3), (99, .iload 5, 2), (101, .invokevirtual 313, 3), (104, .invokevirtual 359, 3), (107, .istore 6, 2), (109, .iload 4, 2), (111, .aload_n 0, 1), (112, .getfield 65, 3), (115, .iload 6, 2), (117, .invokestatic 129, 3), (120, .iconst 1, 1), (121, .iadd, 1), (122, .invokestatic 362, 3), (125, .istore 4, 2), (127, .iinc 5 1, 3), (130, .goto (-58), 3), (133, .aload_n 0, 1), (134, .getfield 65, 3), (137, .iload_n 3, 1), (138, .iload_n 2, 1), (139, .ifCond .ne 14, 3), (142, .iload_n 3, 1), (143, .aload_n 0, 1), (144, .getfield 72, 3), (147, .getfield 291, 3), (150, .if_icmp .ne 7, 3), (153, .iconst (-1), 1), (154, .goto 5, 3), (157, .iload 4, 2), (159, .invokestatic 275, 3), (162, .iinc 3 1, 3), (165, .goto (-110), 3), (168, .return_, 1)]
def zq_L136 : List (Nat × Instr × Nat) := [(0, .aload_n 0, 1), (1, .getfield 65, 3), (4, .aload_n 0, 1), (5, .getfield 19, 3), (8, .getfield 216, 3), (11, .invokestatic 129, 3), (14, .istore_n 2, 1), (15, .iconst 0, 1), (16, .istore_n 3, 1), (17, .iload_n 3, 1), (18, .iconst 3, 1), (19, .if_icmp .ge 72, 3), (22, .aload_n 0, 1), (23, .getfield 65, 3), (26, .aload_n 0, 1), (27, .getfield 72, 3), (30, .aload_n 0, 1), (31, .getfield 19, 3), (34, .getfield 216, 3), (37, .aload_n 0, 1), (38, .getfield 72, 3), (41, .iload_n 1, 1), (42, .aload_n 0, 1), (43, .getfield 72, 3), (46, .getfield 356, 3), (49, .iload_n 3, 1), (50, .invokevirtual 313, 3), (53, .invokevirtual 359, 3), (56, .invokestatic 129, 3), (59, .istore 4, 2), (61, .iload_n 2, 1), (62, .iconst (-1), 1), (63, .if_icmp .ne 12, 3), (66, .iload 4, 2), (68, .iconst (-1), 1), (69, .if_icmp .ne 16, 3), (72, .goto 11, 3), (75, .iload 4, 2), (77, .iconst 1, 1), (78, .iadd, 1), (79, .iload_n 2, 1), (80, .if_icmp .ne 5, 3), (83, .iload_n 3, 1), (84, .ireturn, 1), (85, .iinc 3 1, 3), (88, .goto (-71), 3), (91, .iconst (-1), 1), (92, .ireturn, 1)]
def zq_L137 : List (Nat × Instr × Nat) := [(0, .iload_n 1, 1), (1, .iconst 0, 1), (2, .sipush 9999, 3), (5, .invokestatic 169, 3), (8, .ifCond .eq 22, 3), (11, .iload_n 2, 1), (12, .iconst 1, 1), (13, .bipush 40, 2), (15, .invokestatic 169, 3), (18, .ifCond .eq 12, 3), (21, .iload_n 3, 1), (22, .iconst 0, 1), (23, .iconst 2, 1), (24, .invokestatic 169, 3), (27, .ifCond .ne 5, 3), (30, .iconst (-1), 1), (31, .ireturn, 1), (32, .aload_n 0, 1), (33, .getfield 23, 3), (36, .aload_n 0, 1), (37, .getfield 19, 3), (40, .invokevirtual 208, 3), (43, .aload_n 0, 1), (44, .getfield 50, 3), (47, .iload_n 1, 1), (48, .invokevirtual 176, 3), (51, .iconst 0, 1), (52, .istore 4, 2), (54, .iconst 0, 1), (55, .istore 5, 2), (57, .iconst 0, 1), (58, .istore 6, 2), (60, .iload 6, 2), (62, .iload_n 2, 1), (63, .if_icmp .ge 112, 3), (66, .aload_n 0, 1), (67, .getfield 50, 3), (70, .aload_n 0, 1), (71, .getfield 72, 3), (74, .aload_n 0, 1), (75, .getfield 23, 3), (78, .invokevirtual 180, 3), (81, .aload_n 0, 1), (82, .getfield 23, 3), (85, .aload_n 0, 1), (86, .getfield 50, 3), (89, .iconst 3, 1), (90, .invokevirtual 319, 3), (93, .putfield 194, 3), (96, .aload_n 0, 1), (97, .getfield 23, 3), (100, .iconst 0, 1), (101, .putfield 219, 3), (104, .aload_n 0, 1), (105, .getfield 23, 3), (108, .getfield 139, 3), (111, .iconst 0, 1), (112, .invokestatic 129, 3), (115, .istore 7, 2), (117, .iload 7, 2), (119, .iconst (-1), 1), (120, .if_icmp .eq 26, 3), (123, .aload_n 0, 1), (124, .getfield 72, 3), (127, .iload 7, 2), (129, .iconst 0, 1), (130, .invokevirtual 162, 3), (133, .aload_n 0, 1), (134, .getfield 72, 3), (137, .getfield 322, 3), (140, .if_icmp .ge 6, 3), (143, .iinc 5 1, 3), (146, .iload 4, 2), (148, .aload_n 0, 1), (149, .getfield 23, 3), (152, .aload_n 0, 1), (153, .getfield 72, 3), (156, .aload_n 0, 1), (157, .getfield 72, 3), (160, .getfield 325, 3), (163, .invokevirtual 201, 3), (166, .iadd, 1), (167, .istore 4, 2), (169, .iinc 6 1, 3), (172, .goto (-112), 3), (175, .iload_n 3, 1), (176, .ifCond .ne 11, 3), (179, .aload_n 0, 1), (180, .getfield 23, 3), (183, .getfield 216, 3), (186, .ireturn, 1), (187, .iload_n 3, 1), (188, .iconst 1, 1), (189, .if_icmp .ne 8, 3), (192, .iload 4, 2), (194, .goto 5, 3), (197, .iload 5, 2), (199, .ireturn, 1)]
def zq_L138 : List (Nat × Instr × Nat) := [(0, .iload_n 1, 1), (1, .ifCond .lt 23, 3), (4, .iload_n 1, 1), (5, .iconst 4, 1), (6, .if_icmp .ge 18, 3), (9, .iload_n 2, 1), (10, .ifCond .eq 16, 3), (13, .aload_n 0, 1), (14, .getfield 116, 3), (17, .iload_n 1, 1), (18, .ishr, 1), (19, .iconst 1, 1), (20, .iand, 1), (21, .ifCond .ne 5, 3), (24, .iconst 0, 1), (25, .ireturn, 1), (26, .iload_n 2, 1), (27, .ifCond .eq 37, 3), (30, .aload_n 0, 1), (31, .getfield 19, 3), (34, .aload_n 0, 1), (35, .getfield 58, 3), (38, .iload_n 1, 1), (39, .aaload, 1), (40, .invokevirtual 208, 3), (43, .aload_n 0, 1), (44, .getfield 29, 3), (47, .aload_n 0, 1), (48, .getfield 61, 3), (51, .iload_n 1, 1), (52, .aaload, 1), (53, .invokevirtual 328, 3), (56, .aload_n 0, 1), (57, .iconst 0, 1), (58, .putfield 113, 3), (61, .goto 41, 3), (64, .aload_n 0, 1), (65, .getfield 58, 3), (68, .iload_n 1, 1), (69, .aaload, 1), (70, .aload_n 0, 1), (71, .getfield 19, 3), (74, .invokevirtual 208, 3), (77, .aload_n 0, 1), (78, .getfield 61, 3), (81, .iload_n 1, 1), (82, .aaload, 1), (83, .aload_n 0, 1), (84, .getfield 29, 3), (87, .invokevirtual 328, 3), (90, .aload_n 0, 1), (91, .dup, 1), (92, .getfield 116, 3), (95, .iconst 1, 1), (96, .iload_n 1, 1), (97, .ishl, 1), (98, .ior, 1), (99, .putfield 116, 3), (102, .iconst 1, 1), (103, .ireturn, 1)]
def zq_L139 : List (Nat × Instr × Nat) := [(0, .iconst 0, 1), (1, .istore_n 2, 1), (2, .iload_n 2, 1), (3, .iconst 5, 1), (4, .if_icmp .ge 25, 3), (7, .aload_n 0, 1), (8, .getfield 9, 3), (11, .iload_n 2, 1), (12, .aload_n 1, 1), (13, .getfield 9, 3), (16, .iload_n 2, 1), (17, .invokestatic 28, 3), (20, .invokestatic 32, 3), (23, .iinc 2 1, 3), (26, .goto (-24), 3), (29, .iconst 0, 1), (30, .istore_n 2, 1), (31, .iload_n 2, 1), (32, .bipush 8, 2), (34, .if_icmp .ge 41, 3), (37, .aload_n 0, 1), (38, .getfield 15, 3), (41, .iload_n 2, 1), (42, .aload_n 1, 1), (43, .getfield 15, 3), (46, .iload_n 2, 1), (47, .invokestatic 28, 3), (50, .invokestatic 32, 3), (53, .aload_n 0, 1), (54, .getfield 18, 3), (57, .iload_n 2, 1), (58, .aload_n 1, 1), (59, .getfield 18, 3), (62, .iload_n 2, 1), (63, .invokestatic 28, 3), (66, .invokestatic 32, 3), (69, .iinc 2 1, 3), (72, .goto (-41), 3), (75, .aload_n 0, 1), (76, .aload_n 1, 1), (77, .getfield 21, 3), (80, .putfield 21, 3), (83, .aload_n 0, 1), (84, .aload_n 1, 1), (85, .getfield 25, 3), (88, .putfield 25, 3), (91, .return_, 1)]
def zq_L140 : List (Nat × Instr × Nat) := [(0, .iload_n 1, 1), (1, .tableswitch 180 0 12 #[67, 75, 83, 91, 99, 107, 115, 127, 135, 143, 151, 156, 164], 67), (68, .aload_n 0, 1), (69, .getfield 72, 3), (72, .getfield 222, 3), (75, .ireturn, 1), (76, .aload_n 0, 1), (77, .getfield 72, 3), (80, .getfield 255, 3), (83, .ireturn, 1), (84, .aload_n 0, 1), (85, .getfield 72, 3), (88, .getfield 291, 3), (91, .ireturn, 1), (92, .aload_n 0, 1), (93, .getfield 19, 3), (96, .getfield 216, 3), (99, .ireturn, 1), (100, .aload_n 0, 1), (101, .getfield 19, 3), (104, .getfield 219, 3), (107, .ireturn, 1), (108, .aload_n 0, 1), (109, .getfield 19, 3), (112, .getfield 194, 3), (115, .ireturn, 1), (116, .aload_n 0, 1), (117, .getfield 19, 3), (120, .aload_n 0, 1), (121, .getfield 72, 3), (124, .invokevirtual 331, 3), (127, .ireturn, 1), (128, .aload_n 0, 1), (129, .getfield 82, 3), (132, .getfield 108, 3), (135, .ireturn, 1), (136, .aload_n 0, 1), (137, .getfield 29, 3), (140, .getfield 294, 3), (143, .ireturn, 1), (144, .aload_n 0, 1), (145, .getfield 29, 3), (148, .getfield 269, 3), (151, .ireturn, 1), (152, .aload_n 0, 1), (153, .getfield 113, 3), (156, .ireturn, 1), (157, .aload_n 0, 1), (158, .getfield 10, 3), (161, .getfield 97, 3), (164, .ireturn, 1), (165, .aload_n 0, 1), (166, .getfield 19, 3), (169, .getfield 335, 3), (172, .ifCond .eq 7, 3), (175, .iconst 1, 1), (176, .goto 4, 3), (179, .iconst 0, 1), (180, .ireturn, 1), (181, .iconst (-1), 1), (182, .ireturn, 1)]
def zq_L141 : List (Nat × Instr × Nat) := [(0, .iconst 0, 1), (1, .istore_n 2, 1), (2, .iconst 0, 1), (3, .istore_n 3, 1), (4, .iload_n 3, 1), (5, .aload_n 1, 1), (6, .getfield 24, 3), (9, .if_icmp .ge 20, 3), (12, .iload_n 2, 1), (13, .aload_n 0, 1), (14, .getfield 15, 3), (17, .iload_n 3, 1), (18, .invokestatic 32, 3), (21, .iadd, 1), (22, .istore_n 2, 1), (23, .iinc 3 1, 3), (26, .goto (-22), 3), (29, .iload_n 2, 1), (30, .ireturn, 1)]
def zq_L142 : List (Nat × Instr × Nat) := [(0, .iload_n 1, 1), (1, .iconst 0, 1), (2, .sipush 999, 3), (5, .invokestatic 169, 3), (8, .ifCond .eq 19, 3), (11, .iload_n 2, 1), (12, .iconst 0, 1), (13, .sipush 999, 3), (16, .invokestatic 169, 3), (19, .ifCond .eq 8, 3), (22, .iload_n 3, 1), (23, .iconst (-1), 1), (24, .if_icmp .ge 11, 3), (27, .new 310, 3), (30, .dup, 1), (31, .invokespecial 312, 3), (34, .athrow, 1), (35, .aload_n 0, 1), (36, .getfield 72, 3), (39, .iload_n 1, 1), (40, .iload_n 2, 1), (41, .iconst 0, 1), (42, .invokevirtual 313, 3), (45, .aload_n 0, 1), (46, .getfield 72, 3), (49, .iload_n 1, 1), (50, .iload_n 2, 1), (51, .iconst 1, 1), (52, .invokevirtual 313, 3), (55, .invokestatic 316, 3), (58, .istore 4, 2), (60, .aload_n 0, 1), (61, .getfield 72, 3), (64, .iload_n 2, 1), (65, .iload_n 1, 1), (66, .iconst 0, 1), (67, .invokevirtual 313, 3), (70, .aload_n 0, 1), (71, .getfield 72, 3), (74, .iload_n 2, 1), (75, .iload_n 1, 1), (76, .iconst 1, 1), (77, .invokevirtual 313, 3), (80, .invokestatic 316, 3), (83, .istore 5, 2), (85, .iconst 0, 1), (86, .istore 6, 2), (88, .iconst 0, 1), (89, .istore 7, 2), (91, .iload 7, 2), (93, .iconst 4, 1), (94, .if_icmp .ge 47, 3), (97, .iload 4, 2), (99, .iload 7, 2), (101, .iconst 1, 1), (102, .ishr, 1), (103, .ishr, 1), (104, .iconst 1, 1), (105, .iand, 1), (106, .iconst 1, 1), (107, .if_icmp .ne 28, 3), (110, .iload 5, 2), (112, .iload 7, 2), (114, .iconst 1, 1), (115, .iand, 1), (116, .ishr, 1), (117, .iconst 1, 1), (118, .iand, 1), (119, .iconst 1, 1), (120, .if_icmp .ne 15, 3), (123, .iload 6, 2), (125, .iload_n 3, 1), (126, .if_icmp .ne 6, 3), (129, .iload 7, 2), (131, .ireturn, 1), (132, .iinc 6 1, 3), (135, .iinc 7 1, 3), (138, .goto (-47), 3), (141, .iload_n 3, 1), (142, .iconst (-1), 1), (143, .if_icmp .eq 11, 3), (146, .new 310, 3), (149, .dup, 1), (150, .invokespecial 312, 3), (153, .athrow, 1), (154, .iload 6, 2), (156, .ireturn, 1)]
def zq_L143 : List (Nat × Instr × Nat) := [(0, .iload_n 0, 1), (1, .iload_n 1, 1), (2, .if_icmp .lt 7, 3), (5, .iconst 1, 1), (6, .goto 4, 3), (9, .iconst 0, 1), (10, .iload_n 1, 1), (11, .iload_n 0, 1), (12, .if_icmp .lt 7, 3), (15, .iconst 2, 1), (16, .goto 4, 3), (19, .iconst 0, 1), (20, .ior, 1), (21, .ireturn, 1)]
def zq_L144 : List (Nat × Instr × Nat) := [(0, .aload_n 0, 1), (1, .getfield 1, 3), (4, .ireturn, 1)]
def zq_L145 : List (Nat × Instr × Nat) := [(0, .aload_n 0, 1), (1, .iconst 0, 1), (2, .putfield 1, 3), (5, .aload_n 0, 1), (6, .lload_n 1, 1), (7, .invokevirtual 7, 3), (10, .aload_n 0, 1), (11, .lload_n 3, 1), (12, .invokevirtual 7, 3), (15, .aload_n 0, 1), (16, .lload 5, 2), (18, .invokevirtual 7, 3), (21, .aload_n 0, 1), (22, .getfield 11, 3), (25, .ireturn, 1)]
def zq_L146 : List (Nat × Instr × Nat) := [(0, .bipush 56, 2), (2, .istore_n 3, 1), (3, .iload_n 3, 1), (4, .ifCond .lt 71, 3), (7, .lload_n 1, 1), (8, .iload_n 3, 1), (9, .lshr, 1), (10, .l2i, 1), (11, .sipush 255, 3), (14, .iand, 1), (15, .istore 4, 2), (17, .iload 4, 2), (19, .bipush 10, 2), (21, .if_icmp .eq 17, 3), (24, .iload 4, 2), (26, .bipush 32, 2), (28, .if_icmp .lt 41, 3), (31, .iload 4, 2), (33, .bipush 126, 2), (35, .if_icmp .gt 34, 3), (38, .aload_n 0, 1), (39, .getfield 11, 3), (42, .sipush 1000, 3), (45, .if_icmp .ge 24, 3), (48, .aload_n 0, 1), (49, .getfield 14, 3), (52, .aload_n 0, 1), (53, .getfield 11, 3), (56, .iload 4, 2), (58, .iastore, 1), (59, .aload_n 0, 1), (60, .dup, 1), (61, .getfield 11, 3), (64, .iconst 1, 1), (65, .iadd, 1), (66, .putfield 11, 3), (69, .iinc 3 (-8), 3), (72, .goto (-69), 3), (75, .return_, 1)]
def zq_L147 : List (Nat × Instr × Nat) := [(0, .aload_n 0, 1), (1, .invokespecial 18, 3), (4, .aload_n 0, 1), (5, .sipush 1000, 3), (8, .newarray .int, 2), (10, .putfield 14, 3), (13, .aload_n 0, 1), (14, .sipush 1002, 3), (17, .newarray .int, 2), (19, .putfield 24, 3), (22, .aload_n 0, 1), (23, .sipush 1002, 3), (26, .newarray .int, 2), (28, .putfield 27, 3), (31, .aload_n 0, 1), (32, .sipush 1002, 3), (35, .newarray .long, 2), (37, .putfield 30, 3), (40, .aload_n 0, 1), (41, .bipush 36, 2), (43, .newarray .long, 2), (45, .dup, 1), (46, .iconst 0, 1), (47, .ldc2_w 34, 3), (50, .lastore, 1), (51, .dup, 1), (52, .iconst 1, 1), (53, .ldc2_w 36, 3), (56, .lastore, 1), (57, .dup, 1), (58, .iconst 2, 1), (59, .ldc2_w 38, 3), (62, .lastore, 1), (63, .dup, 1), (64, .iconst 3, 1), (65, .ldc2_w 40, 3), (68, .lastore, 1), (69, .dup, 1), (70, .iconst 4, 1), (71, .ldc2_w 42, 3), (74, .lastore, 1), (75, .dup, 1), (76, .iconst 5, 1), (77, .ldc2_w 44, 3), (80, .lastore, 1), (81, .dup, 1), (82, .bipush 6, 2), (84, .ldc2_w 46, 3), (87, .lastore, 1), (88, .dup, 1), (89, .bipush 7, 2), (91, .ldc2_w 48, 3), (94, .lastore, 1), (95, .dup, 1), (96, .bipush 8, 2), (98, .ldc2_w 50, 3), (101, .lastore, 1), (102, .dup, 1), (103, .bipush 9, 2), (105, .ldc2_w 52, 3), (108, .lastore, 1), (109, .dup, 1), (110, .bipush 10, 2), (112, .ldc2_w 54, 3), (115, .lastore, 1), (116, .dup, 1), (117, .bipush 11, 2), (119, .ldc2_w 56, 3), (122, .lastore, 1), (123, .dup, 1), (124, .bipush 12, 2), (126, .ldc2_w 58, 3), (129, .lastore, 1), (130, .dup, 1), (131, .bipush 13, 2), (133, .ldc2_w 60, 3), (136, .lastore, 1), (137, .dup, 1), (138, .bipush 14, 2), (140, .ldc2_w 62, 3), (143, .lastore, 1), (144, .dup, 1), (145, .bipush 15, 2), (147, .ldc2_w 64, 3), (150, .lastore, 1), (151, .dup, 1), (152, .bipush 16, 2), (154, .ldc2_w 66, 3), (157, .lastore, 1), (158, .dup, 1), (159, .bipush 17, 2), (161, .ldc2_w 68, 3), (164, .lastore, 1), (165, .dup, 1), (166, .bipush 18, 2), (168, .ldc2_w 70, 3), (171, .lastore, 1), (172, .dup, 1), (173, .bipush 19, 2), (175, .ldc2_w 72, 3), (178, .lastore, 1), (179, .dup, 1), (180, .bipush 20, 2), (182, .ldc2_w 74, 3), (185, .lastore, 1), (186, .dup, 1), (187, .bipush 21, 2), (189, .ldc2_w 76, 3), (192, .lastore, 1), (193, .dup, 1), (194, .bipush 22, 2), (196, .ldc2_w 78, 3), (199, .lastore, 1), (200, .dup, 1), (201, .bipush 23, 2), (203, .ldc2_w 80, 3), (206, .lastore, 1), (207, .dup, 1), (208, .bipush 24, 2), (210, .ldc2_w 82, 3), (213, .lastore, 1), (214, .dup, 1), (215, .bipush 25, 2), (217, .ldc2_w 84, 3), (220, .lastore, 1), (221, .dup, 1), (222, .bipush 26, 2), (224, .ldc2_w 86, 3), (227, .lastore, 1), (228, .dup, 1), (229, .bipush 27, 2), (231, .ldc2_w 88, 3), (234, .lastore, 1), (235, .dup, 1), (236, .bipush 28, 2), (238, .ldc2_w 90, 3), (241, .lastore, 1), (242, .dup, 1), (243, .bipush 29, 2), (245, .ldc2_w 92, 3), (248, .lastore, 1), (249, .dup, 1), (250, .bipush 30, 2), (252, .ldc2_w 94, 3), (255, .lastore, 1), (256, .dup, 1), (257, .bipush 31, 2), (259, .ldc2_w 96, 3), (262, .lastore, 1), (263, .dup, 1), (264, .bipush 32, 2), (266, .ldc2_w 98, 3), (269, .lastore, 1), (270, .dup, 1), (271, .bipush 33, 2), (273, .ldc2_w 100, 3), (276, .lastore, 1), (277, .dup, 1), (278, .bipush 34, 2), (280, .ldc2_w 102, 3), (283, .lastore, 1), (284, .dup, 1), (285, .bipush 35, 2), (287, .ldc2_w 104, 3), (290, .lastore, 1), (291, .putfield 106, 3), (294, .aload_n 0, 1), (295, .bipush 100, 2), (297, .newarray .int, 2), (299, .putfield 109, 3), (302, .aload_n 0, 1), (303, .sipush 2200, 3), (306, .newarray .int, 2), (308, .putfield 112, 3), (311, .aload_n 0, 1), (312, .sipush 2200, 3), (315, .newarray .int, 2), (317, .putfield 115, 3), (320, .aload_n 0, 1), (321, .bipush 12, 2), (323, .newarray .long, 2), (325, .putfield 118, 3), (328, .aload_n 0, 1), (329, .bipush 12, 2), (331, .newarray .long, 2), (333, .putfield 121, 3), (336, .aload_n 0, 1), (337, .bipush 12, 2), (339, .newarray .int, 2), (341, .putfield 124, 3), (344, .aload_n 0, 1), (345, .bipush 12, 2), (347, .newarray .int, 2), (349, .putfield 127, 3), (352, .aload_n 0, 1), (353, .sipush 210, 3), (356, .newarray .int, 2), (358, .putfield 130, 3), (361, .aload_n 0, 1), (362, .bipush 7, 2), (364, .newarray .int, 2), (366, .putfield 133, 3), (369, .aload_n 0, 1), (370, .sipush 1100, 3), (373, .newarray .int, 2), (375, .putfield 136, 3), (378, .aload_n 0, 1), (379, .sipush 920, 3), (382, .newarray .int, 2), (384, .putfield 139, 3), (387, .aload_n 0, 1), (388, .iconst 4, 1), (389, .newarray .boolean, 2), (391, .putfield 142, 3), (394, .aload_n 0, 1), (395, .bipush 36, 2), (397, .newarray .int, 2), (399, .putfield 146, 3), (402, .aload_n 0, 1), (403, .bipush 6, 2), (405, .newarray .int, 2), (407, .putfield 149, 3), (410, .aload_n 0, 1), (411, .bipush 6, 2), (413, .newarray .int, 2), (415, .putfield 152, 3), (418, .aload_n 0, 1), (419, .bipush 6, 2), (421, .newarray .int, 2), (423, .putfield 155, 3), (426, .aload_n 0, 1), (427, .sipush 720, 3), (430, .newarray .int, 2), (432, .putfield 158, 3), (435, .aload_n 0, 1), (436, .sipush 2160, 3), (439, .newarray .int, 2), (441, .putfield 161, 3), (444, .aload_n 0, 1), (445, .bipush 6, 2), (447, .newarray .int, 2), (449, .putfield 164, 3), (452, .aload_n 0, 1), (453, .bipush 6, 2), (455, .newarray .int, 2), (457, .putfield 167, 3), (460, .aload_n 0, 1), (461, .sipush 2501, 3), (464, .newarray .int, 2), (466, .putfield 170, 3), (469, .aload_n 0, 1), (470, .iconst 0, 1), (471, .invokevirtual 173, 3), (474, .aload_n 0, 1), (475, .invokevirtual 177, 3), (478, .return_, 1)]
def zq_L148 : List (Nat × Instr × Nat) := [(0, .iconst 0, 1), (1, .istore_n 2, 1), (2, .iload_n 2, 1), (3, .bipush 50, 2), (5, .if_icmp .ge 18, 3), (8, .aload_n 0, 1), (9, .getfield 109, 3), (12, .iload_n 1, 1), (13, .iload_n 2, 1), (14, .iadd, 1), (15, .iconst 0, 1), (16, .iastore, 1), (17, .iinc 2 1, 3), (20, .goto (-18), 3), (23, .aload_n 0, 1), (24, .getfield 109, 3), (27, .iload_n 1, 1), (28, .iconst 2, 1), (29, .iadd, 1), (30, .bipush 10, 2), (32, .iastore, 1), (33, .aload_n 0, 1), (34, .getfield 109, 3), (37, .iload_n 1, 1), (38, .iconst 3, 1), (39, .iadd, 1), (40, .iconst 5, 1), (41, .iastore, 1), (42, .aload_n 0, 1), (43, .getfield 109, 3), (46, .iload_n 1, 1), (47, .iconst 4, 1), (48, .iadd, 1), (49, .bipush 20, 2), (51, .iastore, 1), (52, .aload_n 0, 1), (53, .getfield 109, 3), (56, .iload_n 1, 1), (57, .iconst 5, 1), (58, .iadd, 1), (59, .bipush 13, 2), (61, .iastore, 1), (62, .aload_n 0, 1), (63, .getfield 109, 3), (66, .iload_n 1, 1), (67, .bipush 6, 2), (69, .iadd, 1), (70, .iconst 3, 1), (71, .iastore, 1), (72, .iconst 0, 1), (73, .istore_n 2, 1), (74, .iload_n 2, 1), (75, .iconst 3, 1), (76, .if_icmp .ge 21, 3), (79, .aload_n 0, 1), (80, .getfield 109, 3), (83, .iload_n 1, 1), (84, .bipush 7, 2), (86, .iadd, 1), (87, .iload_n 2, 1), (88, .iadd, 1), (89, .iconst (-1), 1), (90, .iastore, 1), (91, .iinc 2 1, 3), (94, .goto (-20), 3), (97, .return_, 1)]
def zq_L149 : List (Nat × Instr × Nat) := [(0, .aload_n 0, 1), (1, .iconst 0, 1), (2, .invokevirtual 325, 3), (5, .aload_n 0, 1), (6, .getfield 139, 3), (9, .bipush 16, 2), (11, .iconst 0, 1), (12, .iastore, 1), (13, .aload_n 0, 1), (14, .getfield 139, 3), (17, .bipush 22, 2), (19, .iconst 0, 1), (20, .iastore, 1), (21, .aload_n 0, 1), (22, .getfield 130, 3), (25, .iconst 0, 1), (26, .iconst 0, 1), (27, .iastore, 1), (28, .aload_n 0, 1), (29, .iconst 0, 1), (30, .putfield 328, 3), (33, .iconst 0, 1), (34, .istore_n 1, 1), (35, .iload_n 1, 1), (36, .iconst 4, 1), (37, .if_icmp .ge 16, 3), (40, .aload_n 0, 1), (41, .getfield 142, 3), (44, .iload_n 1, 1), (45, .iconst 0, 1), (46, .bastore, 1), (47, .iinc 1 1, 3), (50, .goto (-15), 3), (53, .return_, 1)]
def zq_L150 : List (Nat × Instr × Nat) := [(0, .aload_n 0, 1), (1, .getfield 139, 3), (4, .iload_n 1, 1), (5, .iconst 0, 1), (6, .iadd, 1), (7, .iconst 0, 1), (8, .iastore, 1), (9, .aload_n 0, 1), (10, .getfield 139, 3), (13, .iload_n 1, 1), (14, .iconst 1, 1), (15, .iadd, 1), (16, .aload_n 0, 1), (17, .getfield 109, 3), (20, .iconst 3, 1), (21, .iaload, 1), (22, .iastore, 1), (23, .aload_n 0, 1), (24, .getfield 139, 3), (27, .iload_n 1, 1), (28, .iconst 2, 1), (29, .iadd, 1), (30, .iconst 0, 1), (31, .iastore, 1), (32, .aload_n 0, 1), (33, .getfield 139, 3), (36, .iload_n 1, 1), (37, .iconst 3, 1), (38, .iadd, 1), (39, .iconst (-1), 1), (40, .iastore, 1), (41, .iconst 0, 1), (42, .istore_n 2, 1), (43, .iload_n 2, 1), (44, .bipush 6, 2), (46, .if_icmp .ge 69, 3), (49, .aload_n 0, 1), (50, .getfield 139, 3), (53, .iload_n 1, 1), (54, .iconst 4, 1), (55, .iadd, 1), (56, .iload_n 2, 1), (57, .iadd, 1), (58, .iload_n 2, 1), (59, .aload_n 0, 1), (60, .invokevirtual 315, 3), (63, .if_icmp .ge 15, 3), (66, .iload_n 2, 1), (67, .aload_n 0, 1), (68, .invokevirtual 319, 3), (71, .if_icmp .ge 7, 3), (74, .iload_n 2, 1), (75, .goto 4, 3), (78, .iconst (-1), 1), (79, .iastore, 1), (80, .aload_n 0, 1), (81, .getfield 139, 3), (84, .iload_n 1, 1), (85, .bipush 10, 2), (87, .iadd, 1), (88, .iload_n 2, 1), (89, .iadd, 1), (90, .iload_n 2, 1), (91, .aload_n 0, 1), (92, .invokevirtual 319, 3), (95, .if_icmp .ge 12, 3), (98, .aload_n 0, 1), (99, .iload_n 2, 1), (100, .iconst 2, 1), (101, .invokevirtual 322, 3), (104, .goto 4, 3), (107, .iconst 0, 1), (108, .iastore, 1), (109, .iinc 2 1, 3), (112, .goto (-69), 3), (115, .return_, 1)]
def zq_L151 : List (Nat × Instr × Nat) := [(0, .aload_n 0, 1), (1, .getfield 109, 3), (4, .iconst 0, 1), (5, .iaload, 1), (6, .ireturn, 1)]
def zq_L152 : List (Nat × Instr × Nat) := [(0, .aload_n 0, 1), (1, .getfield 109, 3), (4, .iconst 1, 1), (5, .iaload, 1), (6, .ireturn, 1)]
def zq_L153 : List (Nat × Instr × Nat) := [(0, .aload_n 0, 1), (1, .getfield 109, 3), (4, .bipush 28, 2), (6, .iconst 3, 1), (7, .iload_n 1, 1), (8, .imul, 1), (9, .iadd, 1), (10, .iload_n 2, 1), (11, .iadd, 1), (12, .iaload, 1), (13, .ireturn, 1)]
def zq_L154 : List (Nat × Instr × Nat) := [(0, .aload_n 0, 1), (1, .iconst 0, 1), (2, .putfield 1, 3), (5, .aload_n 0, 1), (6, .invokevirtual 249, 3), (9, .aload_n 0, 1), (10, .iconst 0, 1), (11, .putfield 252, 3), (14, .aload_n 0, 1), (15, .iconst 0, 1), (16, .putfield 231, 3), (19, .aload_n 0, 1), (20, .iconst 0, 1), (21, .putfield 255, 3), (24, .aload_n 0, 1), (25, .bipush 50, 2), (27, .invokevirtual 173, 3), (30, .aload_n 0, 1), (31, .getfield 206, 3), (34, .ifCond .ne 58, 3), (37, .aload_n 0, 1), (38, .getfield 24, 3), (41, .aload_n 0, 1), (42, .getfield 203, 3), (45, .iaload, 1), (46, .ifCond .eq 46, 3), (49, .aload_n 0, 1), (50, .iconst 0, 1), (51, .invokevirtual 215, 3), (54, .ifCond .eq 10, 3), (57, .aload_n 0, 1), (58, .invokevirtual 258, 3), (61, .goto 22, 3), (64, .aload_n 0, 1), (65, .iconst 3, 1), (66, .invokevirtual 215, 3), (69, .ifCond .eq 10, 3), (72, .aload_n 0, 1), (73, .invokevirtual 261, 3), (76, .goto 7, 3), (79, .aload_n 0, 1), (80, .invokevirtual 264, 3), (83, .aload_n 0, 1), (84, .bipush 59, 2), (86, .invokevirtual 267, 3), (89, .goto (-59), 3), (92, .aload_n 0, 1), (93, .getfield 206, 3), (96, .ifCond .le 8, 3), (99, .aload_n 0, 1), (100, .getfield 206, 3), (103, .ireturn, 1), (104, .iconst 0, 1), (105, .istore_n 1, 1), (106, .iload_n 1, 1), (107, .bipush 50, 2), (109, .if_icmp .ge 24, 3), (112, .aload_n 0, 1), (113, .getfield 109, 3), (116, .iload_n 1, 1), (117, .aload_n 0, 1), (118, .getfield 109, 3), (121, .bipush 50, 2), (123, .iload_n 1, 1), (124, .iadd, 1), (125, .iaload, 1), (126, .iastore, 1), (127, .iinc 1 1, 3), (130, .goto (-24), 3), (133, .iconst 0, 1), (134, .istore_n 1, 1), (135, .iload_n 1, 1), (136, .aload_n 0, 1), (137, .getfield 252, 3), (140, .if_icmp .ge 41, 3), (143, .aload_n 0, 1), (144, .getfield 112, 3), (147, .iload_n 1, 1), (148, .aload_n 0, 1), (149, .getfield 112, 3), (152, .sipush 1100, 3), (155, .iload_n 1, 1), (156, .iadd, 1), (157, .iaload, 1), (158, .iastore, 1), (159, .aload_n 0, 1), (160, .getfield 115, 3), (163, .iload_n 1, 1), (164, .aload_n 0, 1), (165, .getfield 115, 3), (168, .sipush 1100, 3), (171, .iload_n 1, 1), (172, .iadd, 1), (173, .iaload, 1), (174, .iastore, 1), (175, .iinc 1 1, 3), (178, .goto (-43), 3), (181, .iconst 0, 1), (182, .istore_n 1, 1), (183, .iload_n 1, 1), (184, .aload_n 0, 1), (185, .getfield 231, 3), (188, .if_icmp .ge 33, 3), (191, .aload_n 0, 1), (192, .getfield 118, 3), (195, .iload_n 1, 1), (196, .aload_n 0, 1), (197, .getfield 121, 3), (200, .iload_n 1, 1), (201, .laload, 1), (202, .lastore, 1), (203, .aload_n 0, 1), (204, .getfield 124, 3), (207, .iload_n 1, 1), (208, .aload_n 0, 1), (209, .getfield 127, 3), (212, .iload_n 1, 1), (213, .iaload, 1), (214, .iastore, 1), (215, .iinc 1 1, 3), (218, .goto (-35), 3), (221, .aload_n 0, 1), (222, .aload_n 0, 1), (223, .getfield 231, 3), (226, .putfield 234, 3), (229, .aload_n 0, 1), (230, .invokevirtual 177, 3), (233, .iconst 0, 1), (234, .ireturn, 1)]
def zq_L155 : List (Nat × Instr × Nat) := [(0, .aload_n 0, 1), (1, .aload_n 0, 1), (2, .getfield 11, 3), (5, .putfield 184, 3), (8, .aload_n 0, 1), (9, .iconst 0, 1), (10, .putfield 11, 3), (13, .iconst 0, 1), (14, .istore_n 1, 1), (15, .iconst 0, 1), (16, .istore_n 2, 1), (17, .iload_n 2, 1), (18, .aload_n 0, 1), (19, .getfield 184, 3), (22, .if_icmp .ge 257, 3), (25, .aload_n 0, 1), (26, .getfield 14, 3), (29, .iload_n 2, 1), (30, .iaload, 1), (31, .istore_n 3, 1), (32, .iload_n 3, 1), (33, .bipush 10, 2), (35, .if_icmp .eq 9, 3), (38, .iload_n 3, 1), (39, .bipush 32, 2), (41, .if_icmp .ne 9, 3), (44, .iinc 2 1, 3), (47, .goto (-30), 3), (50, .iload_n 2, 1), (51, .istore 4, 2), (53, .lconst 0, 1), (54, .lstore 5, 2), (56, .aload_n 0, 1), (57, .getfield 27, 3), (60, .iload_n 1, 1), (61, .iload_n 2, 1), (62, .iastore, 1), (63, .iload_n 3, 1), (64, .invokestatic 180, 3), (67, .ifCond .eq 85, 3), (70, .iload_n 2, 1), (71, .aload_n 0, 1), (72, .getfield 184, 3), (75, .if_icmp .ge 54, 3), (78, .aload_n 0, 1), (79, .getfield 14, 3), (82, .iload_n 2, 1), (83, .iaload, 1), (84, .invokestatic 180, 3), (87, .ifCond .eq 42, 3), (90, .iload_n 2, 1), (91, .iload 4, 2), (93, .isub, 1), (94, .bipush 8, 2), (96, .if_icmp .ge 23, 3), (99, .ldc2_w 187, 3), (102, .lload 5, 2), (104, .lmul, 1), (105, .aload_n 0, 1), (106, .getfield 14, 3), (109, .iload_n 2, 1), (110, .iaload, 1), (111, .invokestatic 189, 3), (114, .i2l, 1), (115, .ladd, 1), (116, .goto 5, 3), (119, .lload 5, 2), (121, .lstore 5, 2), (123, .iinc 2 1, 3), (126, .goto (-56), 3), (129, .aload_n 0, 1), (130, .getfield 24, 3), (133, .iload_n 1, 1), (134, .iload_n 2, 1), (135, .iload 4, 2), (137, .isub, 1), (138, .bipush 8, 2), (140, .if_icmp .le 7, 3), (143, .iconst 4, 1), (144, .goto 4, 3), (147, .iconst 1, 1), (148, .iastore, 1), (149, .goto 116, 3), (152, .iload_n 3, 1), (153, .invokestatic 193, 3), (156, .ifCond .eq 84, 3), (159, .iload_n 2, 1), (160, .aload_n 0, 1), (161, .getfield 184, 3), (164, .if_icmp .ge 54, 3), (167, .aload_n 0, 1), (168, .getfield 14, 3), (171, .iload_n 2, 1), (172, .iaload, 1), (173, .invokestatic 193, 3), (176, .ifCond .eq 42, 3), (179, .iload_n 2, 1), (180, .iload 4, 2), (182, .isub, 1), (183, .iconst 4, 1), (184, .if_icmp .ge 24, 3), (187, .ldc2_w 196, 3), (190, .lload 5, 2), (192, .lmul, 1), (193, .aload_n 0, 1), (194, .getfield 14, 3), (197, .iload_n 2, 1), (198, .iaload, 1), (199, .i2l, 1), (200, .ladd, 1), (201, .ldc2_w 198, 3), (204, .lsub, 1), (205, .goto 5, 3), (208, .lload 5, 2), (210, .lstore 5, 2), (212, .iinc 2 1, 3), (215, .goto (-56), 3), (218, .aload_n 0, 1), (219, .getfield 24, 3), (222, .iload_n 1, 1), (223, .iload_n 2, 1), (224, .iload 4, 2), (226, .isub, 1), (227, .iconst 4, 1), (228, .if_icmp .le 7, 3), (231, .iconst 4, 1), (232, .goto 4, 3), (235, .iconst 2, 1), (236, .iastore, 1), (237, .goto 28, 3), (240, .iload_n 3, 1), (241, .i2l, 1), (242, .lstore 5, 2), (244, .aload_n 0, 1), (245, .getfield 24, 3), (248, .iload_n 1, 1), (249, .iload_n 3, 1), (250, .invokestatic 200, 3), (253, .ifCond .eq 7, 3), (256, .iconst 3, 1), (257, .goto 4, 3), (260, .iconst 4, 1), (261, .iastore, 1), (262, .iinc 2 1, 3), (265, .aload_n 0, 1), (266, .getfield 30, 3), (269, .iload_n 1, 1), (270, .lload 5, 2), (272, .lastore, 1), (273, .iinc 1 1, 3), (276, .goto (-259), 3), (279, .aload_n 0, 1), (280, .getfield 24, 3), (283, .iload_n 1, 1), (284, .iconst 0, 1), (285, .iastore, 1), (286, .aload_n 0, 1), (287, .getfield 27, 3), (290, .iload_n 1, 1), (291, .aload_n 0, 1), (292, .getfield 184, 3), (295, .iastore, 1), (296, .aload_n 0, 1), (297, .iconst 0, 1), (298, .putfield 203, 3), (301, .aload_n 0, 1), (302, .iconst 0, 1), (303, .putfield 206, 3), (306, .return_, 1)]
def zq_L156 : List (Nat × Instr × Nat) := [(0, .iload_n 0, 1), (1, .bipush 97, 2), (3, .if_icmp .lt 13, 3), (6, .iload_n 0, 1), (7, .bipush 122, 2), (9, .if_icmp .gt 7, 3), (12, .iconst 1, 1), (13, .goto 4, 3), (16, .iconst 0, 1), (17, .ireturn, 1)]
def zq_L157 : List (Nat × Instr × Nat) := [(0, .iload_n 0, 1), (1, .invokestatic 180, 3), (4, .ifCond .eq 10, 3), (7, .iload_n 0, 1), (8, .bipush 96, 2), (10, .isub, 1), (11, .goto 7, 3), (14, .iload_n 0, 1), (15, .bipush 21, 2), (17, .isub, 1), (18, .ireturn, 1)]
def zq_L158 : List (Nat × Instr × Nat) := [(0, .iload_n 0, 1), (1, .bipush 48, 2), (3, .if_icmp .lt 13, 3), (6, .iload_n 0, 1), (7, .bipush 57, 2), (9, .if_icmp .gt 7, 3), (12, .iconst 1, 1), (13, .goto 4, 3), (16, .iconst 0, 1), (17, .ireturn, 1)]
def zq_L159 : List (Nat × Instr × Nat) := [(0, .iload_n 0, 1), (1, .bipush 40, 2), (3, .if_icmp .eq 45, 3), (6, .iload_n 0, 1), (7, .bipush 41, 2), (9, .if_icmp .eq 39, 3), (12, .iload_n 0, 1), (13, .bipush 59, 2), (15, .if_icmp .eq 33, 3), (18, .iload_n 0, 1), (19, .bipush 61, 2), (21, .if_icmp .eq 27, 3), (24, .iload_n 0, 1), (25, .bipush 60, 2), (27, .if_icmp .eq 21, 3), (30, .iload_n 0, 1), (31, .bipush 43, 2), (33, .if_icmp .eq 15, 3), (36, .iload_n 0, 1), (37, .bipush 45, 2), (39, .if_icmp .eq 9, 3), (42, .iload_n 0, 1), (43, .bipush 42, 2), (45, .if_icmp .ne 7, 3), (48, .iconst 1, 1), (49, .goto 4, 3), (52, .iconst 0, 1), (53, .ireturn, 1)]
def zq_L160 : List (Nat × Instr × Nat) := [(0, .aload_n 0, 1), (1, .getfield 206, 3), (4, .ifCond .ne 39, 3), (7, .aload_n 0, 1), (8, .getfield 24, 3), (11, .aload_n 0, 1), (12, .getfield 203, 3), (15, .iaload, 1), (16, .iconst 1, 1), (17, .if_icmp .ne 26, 3), (20, .aload_n 0, 1), (21, .getfield 30, 3), (24, .aload_n 0, 1), (25, .getfield 203, 3), (28, .laload, 1), (29, .aload_n 0, 1), (30, .getfield 106, 3), (33, .iload_n 1, 1), (34, .laload, 1), (35, .lcmp, 1), (36, .ifCond .ne 7, 3), (39, .iconst 1, 1), (40, .goto 4, 3), (43, .iconst 0, 1), (44, .ireturn, 1)]
def zq_L161 : List (Nat × Instr × Nat) := [(0, .aload_n 0, 1), (1, .getfield 109, 3), (4, .bipush 50, 2), (6, .iaload, 1), (7, .istore_n 1, 1), (8, .iload_n 1, 1), (9, .bipush 6, 2), (11, .if_icmp .ne 9, 3), (14, .aload_n 0, 1), (15, .iconst 5, 1), (16, .invokevirtual 212, 3), (19, .return_, 1), (20, .aload_n 0, 1), (21, .iload_n 1, 1), (22, .invokevirtual 270, 3), (25, .bipush 60, 2), (27, .iconst 3, 1), (28, .iload_n 1, 1), (29, .imul, 1), (30, .iadd, 1), (31, .istore_n 2, 1), (32, .aload_n 0, 1), (33, .getfield 109, 3), (36, .iload_n 2, 1), (37, .aload_n 0, 1), (38, .bipush 22, 2), (40, .iconst 4, 1), (41, .invokevirtual 273, 3), (44, .iastore, 1), (45, .aload_n 0, 1), (46, .getfield 109, 3), (49, .iload_n 2, 1), (50, .iconst 1, 1), (51, .iadd, 1), (52, .aload_n 0, 1), (53, .iconst 1, 1), (54, .iconst 1, 1), (55, .bipush 9, 2), (57, .invokevirtual 276, 3), (60, .iastore, 1), (61, .aload_n 0, 1), (62, .getfield 109, 3), (65, .iload_n 2, 1), (66, .iconst 2, 1), (67, .iadd, 1), (68, .iconst (-1), 1), (69, .iastore, 1), (70, .aload_n 0, 1), (71, .iconst 2, 1), (72, .invokevirtual 218, 3), (75, .ifCond .eq 59, 3), (78, .aload_n 0, 1), (79, .iconst 1, 1), (80, .iconst 0, 1), (81, .bipush 6, 2), (83, .invokevirtual 280, 3), (86, .istore_n 3, 1), (87, .aload_n 0, 1), (88, .getfield 206, 3), (91, .ifCond .ne 13, 3), (94, .iload_n 3, 1), (95, .iload_n 1, 1), (96, .if_icmp .ne 8, 3), (99, .aload_n 0, 1), (100, .iconst 2, 1), (101, .invokevirtual 212, 3), (104, .aload_n 0, 1), (105, .dup, 1), (106, .getfield 203, 3), (109, .aload_n 0, 1), (110, .getfield 206, 3), (113, .ifCond .le 7, 3), (116, .iconst 0, 1), (117, .goto 4, 3), (120, .iconst 1, 1), (121, .iadd, 1), (122, .putfield 203, 3), (125, .aload_n 0, 1), (126, .getfield 109, 3), (129, .iload_n 2, 1), (130, .iconst 2, 1), (131, .iadd, 1), (132, .iload_n 3, 1), (133, .iastore, 1), (134, .aload_n 0, 1), (135, .getfield 109, 3), (138, .bipush 50, 2), (140, .dup2, 1), (141, .iaload, 1), (142, .iconst 1, 1), (143, .iadd, 1), (144, .iastore, 1), (145, .return_, 1)]
def zq_L162 : List (Nat × Instr × Nat) := [(0, .aload_n 0, 1), (1, .getfield 206, 3), (4, .ifCond .ne 21, 3), (7, .aload_n 0, 1), (8, .iload_n 1, 1), (9, .bipush 16, 2), (11, .aload_n 0, 1), (12, .getfield 27, 3), (15, .aload_n 0, 1), (16, .getfield 203, 3), (19, .iaload, 1), (20, .imul, 1), (21, .iadd, 1), (22, .putfield 206, 3), (25, .return_, 1)]
def zq_L163 : List (Nat × Instr × Nat) := [(0, .aload_n 0, 1), (1, .dup, 1), (2, .getfield 203, 3), (5, .iconst 1, 1), (6, .iadd, 1), (7, .putfield 203, 3), (10, .aload_n 0, 1), (11, .invokevirtual 237, 3), (14, .ifCond .ne 11, 3), (17, .aload_n 0, 1), (18, .iconst 1, 1), (19, .invokevirtual 212, 3), (22, .goto 16, 3), (25, .aload_n 0, 1), (26, .iconst 1, 1), (27, .invokevirtual 241, 3), (30, .ifCond .lt 8, 3), (33, .aload_n 0, 1), (34, .iconst 3, 1), (35, .invokevirtual 212, 3), (38, .aload_n 0, 1), (39, .getfield 206, 3), (42, .ifCond .ne 51, 3), (45, .aload_n 0, 1), (46, .getfield 121, 3), (49, .aload_n 0, 1), (50, .getfield 231, 3), (53, .aload_n 0, 1), (54, .getfield 30, 3), (57, .aload_n 0, 1), (58, .getfield 203, 3), (61, .laload, 1), (62, .lastore, 1), (63, .aload_n 0, 1), (64, .getfield 127, 3), (67, .aload_n 0, 1), (68, .getfield 231, 3), (71, .iload_n 1, 1), (72, .iastore, 1), (73, .aload_n 0, 1), (74, .dup, 1), (75, .getfield 231, 3), (78, .iconst 1, 1), (79, .iadd, 1), (80, .putfield 231, 3), (83, .aload_n 0, 1), (84, .dup, 1), (85, .getfield 203, 3), (88, .iconst 1, 1), (89, .iadd, 1), (90, .putfield 203, 3), (93, .return_, 1)]
def zq_L164 : List (Nat × Instr × Nat) := [(0, .aload_n 0, 1), (1, .getfield 206, 3), (4, .ifCond .ne 30, 3), (7, .aload_n 0, 1), (8, .getfield 24, 3), (11, .aload_n 0, 1), (12, .getfield 203, 3), (15, .iaload, 1), (16, .iconst 1, 1), (17, .if_icmp .ne 17, 3), (20, .aload_n 0, 1), (21, .iconst 0, 1), (22, .bipush 29, 2), (24, .invokevirtual 228, 3), (27, .ifCond .ge 7, 3), (30, .iconst 1, 1), (31, .goto 4, 3), (34, .iconst 0, 1), (35, .ireturn, 1)]
def zq_L165 : List (Nat × Instr × Nat) := [(0, .iconst (-1), 1), (1, .istore_n 3, 1), (2, .iconst 0, 1), (3, .istore 4, 2), (5, .iload 4, 2), (7, .iload_n 2, 1), (8, .if_icmp .ge 27, 3), (11, .aload_n 0, 1), (12, .iload_n 1, 1), (13, .iload 4, 2), (15, .iadd, 1), (16, .invokevirtual 215, 3), (19, .ifCond .eq 8, 3), (22, .iload 4, 2), (24, .goto 4, 3), (27, .iload_n 3, 1), (28, .istore_n 3, 1), (29, .iinc 4 1, 3), (32, .goto (-27), 3), (35, .iload_n 3, 1), (36, .ireturn, 1)]
def zq_L166 : List (Nat × Instr × Nat) := [(0, .iconst 0, 1), (1, .istore_n 2, 1), (2, .iload_n 2, 1), (3, .iload_n 1, 1), (4, .ifCond .eq 10, 3), (7, .aload_n 0, 1), (8, .getfield 231, 3), (11, .goto 7, 3), (14, .aload_n 0, 1), (15, .getfield 234, 3), (18, .if_icmp .ge 61, 3), (21, .iload_n 1, 1), (22, .ifCond .eq 12, 3), (25, .aload_n 0, 1), (26, .getfield 121, 3), (29, .iload_n 2, 1), (30, .laload, 1), (31, .goto 9, 3), (34, .aload_n 0, 1), (35, .getfield 118, 3), (38, .iload_n 2, 1), (39, .laload, 1), (40, .aload_n 0, 1), (41, .getfield 30, 3), (44, .aload_n 0, 1), (45, .getfield 203, 3), (48, .laload, 1), (49, .lcmp, 1), (50, .ifCond .ne 23, 3), (53, .iload_n 1, 1), (54, .ifCond .eq 12, 3), (57, .aload_n 0, 1), (58, .getfield 127, 3), (61, .iload_n 2, 1), (62, .iaload, 1), (63, .goto 9, 3), (66, .aload_n 0, 1), (67, .getfield 124, 3), (70, .iload_n 2, 1), (71, .iaload, 1), (72, .ireturn, 1), (73, .iinc 2 1, 3), (76, .goto (-74), 3), (79, .iconst (-1), 1), (80, .ireturn, 1)]
def zq_L167 : List (Nat × Instr × Nat) := [(0, .aload_n 0, 1), (1, .getfield 206, 3), (4, .ifCond .le 7, 3), (7, .iconst (-1), 1), (8, .goto 9, 3), (11, .aload_n 0, 1), (12, .iload_n 1, 1), (13, .iload_n 2, 1), (14, .invokevirtual 228, 3), (17, .istore_n 3, 1), (18, .aload_n 0, 1), (19, .getfield 206, 3), (22, .ifCond .ne 12, 3), (25, .iload_n 3, 1), (26, .ifCond .ge 8, 3), (29, .aload_n 0, 1), (30, .iconst 1, 1), (31, .invokevirtual 212, 3), (34, .aload_n 0, 1), (35, .dup, 1), (36, .getfield 203, 3), (39, .aload_n 0, 1), (40, .getfield 206, 3), (43, .ifCond .le 7, 3), (46, .iconst 0, 1), (47, .goto 4, 3), (50, .iconst 1, 1), (51, .iadd, 1), (52, .putfield 203, 3), (55, .aload_n 0, 1), (56, .getfield 206, 3), (59, .ifCond .le 7, 3), (62, .iconst 0, 1), (63, .goto 4, 3), (66, .iload_n 3, 1), (67, .ireturn, 1)]
def zq_L168 : List (Nat × Instr × Nat) := [(0, .aload_n 0, 1), (1, .iload_n 1, 1), (2, .invokevirtual 221, 3), (5, .aload_n 0, 1), (6, .iload_n 2, 1), (7, .iload_n 3, 1), (8, .invokevirtual 224, 3), (11, .ireturn, 1)]
def zq_L169 : List (Nat × Instr × Nat) := [(0, .aload_n 0, 1), (1, .iload_n 1, 1), (2, .invokevirtual 218, 3), (5, .ifCond .ne 8, 3), (8, .aload_n 0, 1), (9, .iconst 1, 1), (10, .invokevirtual 212, 3), (13, .return_, 1)]
def zq_L170 : List (Nat × Instr × Nat) := [(0, .aload_n 0, 1), (1, .iload_n 1, 1), (2, .invokevirtual 215, 3), (5, .istore_n 2, 1), (6, .aload_n 0, 1), (7, .dup, 1), (8, .getfield 203, 3), (11, .iload_n 2, 1), (12, .ifCond .eq 7, 3), (15, .iconst 1, 1), (16, .goto 4, 3), (19, .iconst 0, 1), (20, .iadd, 1), (21, .putfield 203, 3), (24, .iload_n 2, 1), (25, .ireturn, 1)]
def zq_L171 : List (Nat × Instr × Nat) := [(0, .aload_n 0, 1), (1, .getfield 206, 3), (4, .ifCond .ne 24, 3), (7, .aload_n 0, 1), (8, .getfield 24, 3), (11, .aload_n 0, 1), (12, .getfield 203, 3), (15, .iaload, 1), (16, .iconst 2, 1), (17, .if_icmp .eq 11, 3), (20, .aload_n 0, 1), (21, .iconst 1, 1), (22, .invokevirtual 212, 3), (25, .goto 45, 3), (28, .aload_n 0, 1), (29, .getfield 206, 3), (32, .ifCond .ne 38, 3), (35, .aload_n 0, 1), (36, .getfield 30, 3), (39, .aload_n 0, 1), (40, .getfield 203, 3), (43, .laload, 1), (44, .iload_n 1, 1), (45, .i2l, 1), (46, .lcmp, 1), (47, .ifCond .lt 18, 3), (50, .aload_n 0, 1), (51, .getfield 30, 3), (54, .aload_n 0, 1), (55, .getfield 203, 3), (58, .laload, 1), (59, .iload_n 2, 1), (60, .i2l, 1), (61, .lcmp, 1), (62, .ifCond .le 8, 3), (65, .aload_n 0, 1), (66, .iconst 4, 1), (67, .invokevirtual 212, 3), (70, .aload_n 0, 1), (71, .getfield 206, 3), (74, .ifCond .le 5, 3), (77, .iconst 0, 1), (78, .ireturn, 1), (79, .aload_n 0, 1), (80, .dup, 1), (81, .getfield 203, 3), (84, .iconst 1, 1), (85, .iadd, 1), (86, .putfield 203, 3), (89, .aload_n 0, 1), (90, .getfield 30, 3), (93, .aload_n 0, 1), (94, .getfield 203, 3), (97, .iconst 1, 1), (98, .isub, 1), (99, .laload, 1), (100, .l2i, 1), (101, .ireturn, 1)]
def zq_L172 : List (Nat × Instr × Nat) := [(0, .aload_n 0, 1), (1, .getfield 206, 3), (4, .ifCond .ne 15, 3), (7, .aload_n 0, 1), (8, .invokevirtual 237, 3), (11, .ifCond .ne 8, 3), (14, .aload_n 0, 1), (15, .iconst 1, 1), (16, .invokevirtual 212, 3), (19, .aload_n 0, 1), (20, .getfield 206, 3), (23, .ifCond .le 7, 3), (26, .iconst (-1), 1), (27, .goto 10, 3), (30, .aload_n 0, 1), (31, .iload_n 1, 1), (32, .invokevirtual 241, 3), (35, .iload_n 2, 1), (36, .isub, 1), (37, .istore 4, 2), (39, .aload_n 0, 1), (40, .getfield 206, 3), (43, .ifCond .ne 20, 3), (46, .iload 4, 2), (48, .iconst 0, 1), (49, .iload_n 3, 1), (50, .iconst 1, 1), (51, .isub, 1), (52, .invokestatic 245, 3), (55, .ifCond .ne 8, 3), (58, .aload_n 0, 1), (59, .iconst 2, 1), (60, .invokevirtual 212, 3), (63, .aload_n 0, 1), (64, .getfield 206, 3), (67, .ifCond .le 7, 3), (70, .iconst 0, 1), (71, .goto 5, 3), (74, .iload 4, 2), (76, .ireturn, 1)]
def zq_L173 : List (Nat × Instr × Nat) := [(0, .iload_n 0, 1), (1, .iload_n 1, 1), (2, .if_icmp .lt 12, 3), (5, .iload_n 0, 1), (6, .iload_n 2, 1), (7, .if_icmp .gt 7, 3), (10, .iconst 1, 1), (11, .goto 4, 3), (14, .iconst 0, 1), (15, .ireturn, 1)]
def zq_L174 : List (Nat × Instr × Nat) := [(0, .aload_n 0, 1), (1, .getfield 109, 3), (4, .bipush 51, 2), (6, .iaload, 1), (7, .istore_n 1, 1), (8, .iload_n 1, 1), (9, .bipush 6, 2), (11, .if_icmp .ne 9, 3), (14, .aload_n 0, 1), (15, .iconst 5, 1), (16, .invokevirtual 212, 3), (19, .return_, 1), (20, .aload_n 0, 1), (21, .bipush 20, 2), (23, .iload_n 1, 1), (24, .iadd, 1), (25, .invokevirtual 270, 3), (28, .bipush 78, 2), (30, .iconst 3, 1), (31, .iload_n 1, 1), (32, .imul, 1), (33, .iadd, 1), (34, .istore_n 2, 1), (35, .aload_n 0, 1), (36, .getfield 109, 3), (39, .iload_n 2, 1), (40, .aload_n 0, 1), (41, .iconst 4, 1), (42, .iconst 0, 1), (43, .bipush 9, 2), (45, .invokevirtual 276, 3), (48, .iastore, 1), (49, .aload_n 0, 1), (50, .getfield 109, 3), (53, .iload_n 2, 1), (54, .iconst 1, 1), (55, .iadd, 1), (56, .aload_n 0, 1), (57, .iconst 5, 1), (58, .iconst 0, 1), (59, .bipush 9, 2), (61, .invokevirtual 276, 3), (64, .iastore, 1), (65, .aload_n 0, 1), (66, .getfield 109, 3), (69, .iload_n 2, 1), (70, .iconst 2, 1), (71, .iadd, 1), (72, .aload_n 0, 1), (73, .bipush 6, 2), (75, .iconst 0, 1), (76, .sipush 999, 3), (79, .invokevirtual 276, 3), (82, .iastore, 1), (83, .aload_n 0, 1), (84, .getfield 109, 3), (87, .bipush 51, 2), (89, .dup2, 1), (90, .iaload, 1), (91, .iconst 1, 1), (92, .iadd, 1), (93, .iastore, 1), (94, .return_, 1)]
def zq_L175 : List (Nat × Instr × Nat) := [(0, .aload_n 0, 1), (1, .bipush 7, 2), (3, .invokevirtual 215, 3), (6, .ifCond .eq 7, 3), (9, .iconst 0, 1), (10, .goto 13, 3), (13, .aload_n 0, 1), (14, .bipush 9, 2), (16, .bipush 6, 2), (18, .invokevirtual 228, 3), (21, .iconst 1, 1), (22, .iadd, 1), (23, .istore_n 1, 1), (24, .iload_n 1, 1), (25, .ifCond .ne 20, 3), (28, .aload_n 0, 1), (29, .bipush 7, 2), (31, .invokevirtual 215, 3), (34, .ifCond .ne 11, 3), (37, .aload_n 0, 1), (38, .iconst 1, 1), (39, .invokevirtual 212, 3), (42, .goto 20, 3), (45, .aload_n 0, 1), (46, .getfield 255, 3), (49, .iload_n 1, 1), (50, .ishr, 1), (51, .iconst 1, 1), (52, .iand, 1), (53, .iconst 1, 1), (54, .if_icmp .ne 8, 3), (57, .aload_n 0, 1), (58, .iconst 3, 1), (59, .invokevirtual 212, 3), (62, .aload_n 0, 1), (63, .getfield 206, 3), (66, .ifCond .le 4, 3), (69, .return_, 1), (70, .aload_n 0, 1), (71, .dup, 1), (72, .getfield 255, 3), (75, .iconst 1, 1), (76, .iload_n 1, 1), (77, .ishl, 1), (78, .ior, 1), (79, .putfield 255, 3), (82, .aload_n 0, 1), (83, .dup, 1), (84, .getfield 203, 3), (87, .iconst 1, 1), (88, .iadd, 1), (89, .putfield 203, 3), (92, .iload_n 1, 1), (93, .ifCond .ne 43, 3), (96, .aload_n 0, 1), (97, .getfield 109, 3), (100, .bipush 52, 2), (102, .aload_n 0, 1), (103, .iconst 4, 1), (104, .bipush 40, 2), (106, .invokevirtual 224, 3), (109, .iastore, 1), (110, .aload_n 0, 1), (111, .getfield 109, 3), (114, .bipush 53, 2), (116, .aload_n 0, 1), (117, .bipush 8, 2), (119, .iconst 1, 1), (120, .aload_n 0, 1), (121, .getfield 109, 3), (124, .bipush 52, 2), (126, .iaload, 1), (127, .iconst 1, 1), (128, .isub, 1), (129, .invokevirtual 276, 3), (132, .iastore, 1), (133, .goto 103, 3), (136, .iload_n 1, 1), (137, .iconst 4, 1), (138, .if_icmp .ge 55, 3), (141, .aload_n 0, 1), (142, .getfield 109, 3), (145, .bipush 54, 2), (147, .iload_n 1, 1), (148, .iadd, 1), (149, .iconst 1, 1), (150, .isub, 1), (151, .iload_n 1, 1), (152, .iconst 1, 1), (153, .if_icmp .ne 14, 3), (156, .aload_n 0, 1), (157, .iconst 0, 1), (158, .sipush 999, 3), (161, .invokevirtual 224, 3), (164, .goto 25, 3), (167, .iload_n 1, 1), (168, .iconst 2, 1), (169, .if_icmp .ne 13, 3), (172, .aload_n 0, 1), (173, .iconst 1, 1), (174, .bipush 13, 2), (176, .invokevirtual 224, 3), (179, .goto 10, 3), (182, .aload_n 0, 1), (183, .iconst 0, 1), (184, .bipush 99, 2), (186, .invokevirtual 224, 3), (189, .iastore, 1), (190, .goto 46, 3), (193, .aload_n 0, 1), (194, .getfield 109, 3), (197, .bipush 57, 2), (199, .iload_n 1, 1), (200, .iadd, 1), (201, .iconst 4, 1), (202, .isub, 1), (203, .aload_n 0, 1), (204, .getfield 252, 3), (207, .iastore, 1), (208, .aload_n 0, 1), (209, .iload_n 1, 1), (210, .bipush 6, 2), (212, .if_icmp .ge 8, 3), (215, .bipush 15, 2), (217, .goto 5, 3), (220, .bipush 112, 2), (222, .putfield 284, 3), (225, .aload_n 0, 1), (226, .iconst 0, 1), (227, .invokevirtual 287, 3), (230, .aload_n 0, 1), (231, .iconst 0, 1), (232, .iconst 0, 1), (233, .invokevirtual 290, 3), (236, .return_, 1)]
def zq_L176 : List (Nat × Instr × Nat) := [(0, .aload_n 0, 1), (1, .iload_n 1, 1), (2, .invokevirtual 297, 3), (5, .aload_n 0, 1), (6, .bipush 27, 2), (8, .invokevirtual 215, 3), (11, .ifCond .ne 12, 3), (14, .aload_n 0, 1), (15, .bipush 28, 2), (17, .invokevirtual 215, 3), (20, .ifCond .eq 44, 3), (23, .aload_n 0, 1), (24, .bipush 27, 2), (26, .invokevirtual 215, 3), (29, .istore_n 2, 1), (30, .aload_n 0, 1), (31, .dup, 1), (32, .getfield 203, 3), (35, .iconst 1, 1), (36, .iadd, 1), (37, .putfield 203, 3), (40, .aload_n 0, 1), (41, .iload_n 1, 1), (42, .invokevirtual 297, 3), (45, .aload_n 0, 1), (46, .iload_n 2, 1), (47, .ifCond .eq 8, 3), (50, .bipush 9, 2), (52, .goto 5, 3), (55, .bipush 10, 2), (57, .iconst 0, 1), (58, .invokevirtual 290, 3), (61, .goto (-56), 3), (64, .return_, 1)]
def zq_L177 : List (Nat × Instr × Nat) := [(0, .aload_n 0, 1), (1, .iload_n 1, 1), (2, .invokevirtual 300, 3), (5, .aload_n 0, 1), (6, .bipush 60, 2), (8, .invokevirtual 209, 3), (11, .istore_n 2, 1), (12, .aload_n 0, 1), (13, .bipush 60, 2), (15, .invokevirtual 303, 3), (18, .ifCond .ne 12, 3), (21, .aload_n 0, 1), (22, .bipush 61, 2), (24, .invokevirtual 303, 3), (27, .ifCond .eq 24, 3), (30, .aload_n 0, 1), (31, .iload_n 1, 1), (32, .invokevirtual 300, 3), (35, .aload_n 0, 1), (36, .iload_n 2, 1), (37, .ifCond .eq 8, 3), (40, .bipush 7, 2), (42, .goto 5, 3), (45, .bipush 8, 2), (47, .iconst 0, 1), (48, .invokevirtual 290, 3), (51, .return_, 1)]
def zq_L178 : List (Nat × Instr × Nat) := [(0, .aload_n 0, 1), (1, .iload_n 1, 1), (2, .invokevirtual 306, 3), (5, .aload_n 0, 1), (6, .bipush 43, 2), (8, .invokevirtual 209, 3), (11, .ifCond .ne 12, 3), (14, .aload_n 0, 1), (15, .bipush 45, 2), (17, .invokevirtual 209, 3), (20, .ifCond .eq 42, 3), (23, .aload_n 0, 1), (24, .bipush 43, 2), (26, .invokevirtual 209, 3), (29, .istore_n 2, 1), (30, .aload_n 0, 1), (31, .dup, 1), (32, .getfield 203, 3), (35, .iconst 1, 1), (36, .iadd, 1), (37, .putfield 203, 3), (40, .aload_n 0, 1), (41, .iload_n 1, 1), (42, .invokevirtual 306, 3), (45, .aload_n 0, 1), (46, .iload_n 2, 1), (47, .ifCond .eq 7, 3), (50, .iconst 4, 1), (51, .goto 4, 3), (54, .iconst 5, 1), (55, .iconst 0, 1), (56, .invokevirtual 290, 3), (59, .goto (-54), 3), (62, .return_, 1)]
def zq_L179 : List (Nat × Instr × Nat) := [(0, .aload_n 0, 1), (1, .iload_n 1, 1), (2, .invokevirtual 309, 3), (5, .aload_n 0, 1), (6, .bipush 42, 2), (8, .invokevirtual 303, 3), (11, .ifCond .eq 18, 3), (14, .aload_n 0, 1), (15, .iload_n 1, 1), (16, .invokevirtual 309, 3), (19, .aload_n 0, 1), (20, .bipush 6, 2), (22, .iconst 0, 1), (23, .invokevirtual 290, 3), (26, .goto (-21), 3), (29, .return_, 1)]
def zq_L180 : List (Nat × Instr × Nat) := [(0, .aload_n 0, 1), (1, .getfield 206, 3), (4, .ifCond .le 4, 3), (7, .return_, 1), (8, .aload_n 0, 1), (9, .getfield 24, 3), (12, .aload_n 0, 1), (13, .getfield 203, 3), (16, .iaload, 1), (17, .iconst 2, 1), (18, .if_icmp .ne 7, 3), (21, .iconst 1, 1), (22, .goto 4, 3), (25, .iconst 0, 1), (26, .istore_n 2, 1), (27, .aload_n 0, 1), (28, .bipush 29, 2), (30, .bipush 7, 2), (32, .invokevirtual 228, 3), (35, .istore_n 3, 1), (36, .iload_n 3, 1), (37, .ifCond .lt 19, 3), (40, .aload_n 0, 1), (41, .getfield 284, 3), (44, .iload_n 3, 1), (45, .ishr, 1), (46, .iconst 1, 1), (47, .iand, 1), (48, .iconst 1, 1), (49, .if_icmp .ne 7, 3), (52, .iload_n 3, 1), (53, .goto 4, 3), (56, .iconst (-1), 1), (57, .istore_n 3, 1), (58, .iload_n 3, 1), (59, .ifCond .ge 33, 3), (62, .iload_n 2, 1), (63, .ifCond .ne 29, 3), (66, .aload_n 0, 1), (67, .bipush 40, 2), (69, .invokevirtual 209, 3), (72, .ifCond .ne 20, 3), (75, .aload_n 0, 1), (76, .bipush 26, 2), (78, .invokevirtual 215, 3), (81, .ifCond .ne 11, 3), (84, .aload_n 0, 1), (85, .iconst 1, 1), (86, .invokevirtual 212, 3), (89, .goto 13, 3), (92, .iload_n 1, 1), (93, .iconst 5, 1), (94, .if_icmp .ne 8, 3), (97, .aload_n 0, 1), (98, .iconst 5, 1), (99, .invokevirtual 212, 3), (102, .aload_n 0, 1), (103, .getfield 206, 3), (106, .ifCond .le 4, 3), (109, .return_, 1), (110, .aload_n 0, 1), (111, .bipush 26, 2), (113, .invokevirtual 218, 3), (116, .ifCond .eq 19, 3), (119, .aload_n 0, 1), (120, .iload_n 1, 1), (121, .iconst 1, 1), (122, .iadd, 1), (123, .invokevirtual 309, 3), (126, .aload_n 0, 1), (127, .iconst 3, 1), (128, .iconst 0, 1), (129, .invokevirtual 290, 3), (132, .goto 69, 3), (135, .aload_n 0, 1), (136, .bipush 40, 2), (138, .invokevirtual 303, 3), (141, .ifCond .eq 19, 3), (144, .aload_n 0, 1), (145, .iload_n 1, 1), (146, .iconst 1, 1), (147, .iadd, 1), (148, .invokevirtual 287, 3), (151, .aload_n 0, 1), (152, .bipush 41, 2), (154, .invokevirtual 267, 3), (157, .goto 44, 3), (160, .aload_n 0, 1), (161, .iload_n 2, 1), (162, .ifCond .eq 7, 3), (165, .iconst 1, 1), (166, .goto 4, 3), (169, .iconst 2, 1), (170, .iload_n 2, 1), (171, .ifCond .eq 16, 3), (174, .aload_n 0, 1), (175, .getfield 30, 3), (178, .aload_n 0, 1), (179, .getfield 203, 3), (182, .laload, 1), (183, .l2i, 1), (184, .goto 4, 3), (187, .iload_n 3, 1), (188, .invokevirtual 290, 3), (191, .aload_n 0, 1), (192, .dup, 1), (193, .getfield 203, 3), (196, .iconst 1, 1), (197, .iadd, 1), (198, .putfield 203, 3), (201, .return_, 1)]
def zq_L181 : List (Nat × Instr × Nat) := [(0, .aload_n 0, 1), (1, .getfield 206, 3), (4, .ifCond .ne 35, 3), (7, .aload_n 0, 1), (8, .getfield 24, 3), (11, .aload_n 0, 1), (12, .getfield 203, 3), (15, .iaload, 1), (16, .iconst 3, 1), (17, .if_icmp .ne 22, 3), (20, .aload_n 0, 1), (21, .getfield 30, 3), (24, .aload_n 0, 1), (25, .getfield 203, 3), (28, .laload, 1), (29, .iload_n 1, 1), (30, .i2l, 1), (31, .lcmp, 1), (32, .ifCond .ne 7, 3), (35, .iconst 1, 1), (36, .goto 4, 3), (39, .iconst 0, 1), (40, .ireturn, 1)]
def zq_L182 : List (Nat × Instr × Nat) := [(0, .aload_n 0, 1), (1, .getfield 112, 3), (4, .sipush 1100, 3), (7, .aload_n 0, 1), (8, .getfield 252, 3), (11, .iadd, 1), (12, .iload_n 1, 1), (13, .iastore, 1), (14, .aload_n 0, 1), (15, .getfield 115, 3), (18, .sipush 1100, 3), (21, .aload_n 0, 1), (22, .getfield 252, 3), (25, .iadd, 1), (26, .iload_n 2, 1), (27, .iastore, 1), (28, .aload_n 0, 1), (29, .dup, 1), (30, .getfield 252, 3), (33, .iconst 1, 1), (34, .iadd, 1), (35, .putfield 252, 3), (38, .return_, 1)]
def zq_L183 : List (Nat × Instr × Nat) := [(0, .aload_n 0, 1), (1, .iload_n 1, 1), (2, .invokevirtual 209, 3), (5, .istore_n 2, 1), (6, .aload_n 0, 1), (7, .dup, 1), (8, .getfield 203, 3), (11, .iload_n 2, 1), (12, .ifCond .eq 7, 3), (15, .iconst 1, 1), (16, .goto 4, 3), (19, .iconst 0, 1), (20, .iadd, 1), (21, .putfield 203, 3), (24, .iload_n 2, 1), (25, .ireturn, 1)]
def zq_L184 : List (Nat × Instr × Nat) := [(0, .aload_n 0, 1), (1, .iload_n 1, 1), (2, .invokevirtual 209, 3), (5, .ifCond .eq 16, 3), (8, .aload_n 0, 1), (9, .dup, 1), (10, .getfield 203, 3), (13, .iconst 1, 1), (14, .iadd, 1), (15, .putfield 203, 3), (18, .goto 8, 3), (21, .aload_n 0, 1), (22, .iconst 1, 1), (23, .invokevirtual 212, 3), (26, .return_, 1)]
def zq_L185 : List (Nat × Instr × Nat) := [(0, .aload_n 0, 1), (1, .iconst 0, 1), (2, .putfield 1, 3), (5, .aload_n 0, 1), (6, .invokevirtual 249, 3), (9, .iconst 0, 1), (10, .istore_n 1, 1), (11, .aload_n 0, 1), (12, .getfield 206, 3), (15, .ifCond .ne 94, 3), (18, .aload_n 0, 1), (19, .getfield 24, 3), (22, .aload_n 0, 1), (23, .getfield 203, 3), (26, .iaload, 1), (27, .ifCond .eq 82, 3), (30, .aload_n 0, 1), (31, .bipush 15, 2), (33, .iconst 4, 1), (34, .invokevirtual 228, 3), (37, .istore_n 2, 1), (38, .iload_n 2, 1), (39, .ifCond .ge 11, 3), (42, .aload_n 0, 1), (43, .iconst 1, 1), (44, .invokevirtual 212, 3), (47, .goto 53, 3), (50, .iload_n 1, 1), (51, .bipush 24, 2), (53, .if_icmp .ne 11, 3), (56, .aload_n 0, 1), (57, .iconst 5, 1), (58, .invokevirtual 212, 3), (61, .goto 39, 3), (64, .aload_n 0, 1), (65, .dup, 1), (66, .getfield 203, 3), (69, .iconst 1, 1), (70, .iadd, 1), (71, .putfield 203, 3), (74, .aload_n 0, 1), (75, .getfield 130, 3), (78, .bipush 110, 2), (80, .iconst 4, 1), (81, .iload_n 1, 1), (82, .imul, 1), (83, .iadd, 1), (84, .iload_n 2, 1), (85, .iastore, 1), (86, .aload_n 0, 1), (87, .iload_n 2, 1), (88, .bipush 111, 2), (90, .iconst 4, 1), (91, .iload_n 1, 1), (92, .imul, 1), (93, .iadd, 1), (94, .invokevirtual 294, 3), (97, .iinc 1 1, 3), (100, .aload_n 0, 1), (101, .bipush 59, 2), (103, .invokevirtual 267, 3), (106, .goto (-95), 3), (109, .aload_n 0, 1), (110, .getfield 206, 3), (113, .ifCond .le 8, 3), (116, .aload_n 0, 1), (117, .getfield 206, 3), (120, .ireturn, 1), (121, .aload_n 0, 1), (122, .getfield 130, 3), (125, .iconst 0, 1), (126, .iload_n 1, 1), (127, .iastore, 1), (128, .iconst 0, 1), (129, .istore_n 2, 1), (130, .iload_n 2, 1), (131, .iconst 4, 1), (132, .iload_n 1, 1), (133, .imul, 1), (134, .if_icmp .ge 26, 3), (137, .aload_n 0, 1), (138, .getfield 130, 3), (141, .iconst 1, 1), (142, .iload_n 2, 1), (143, .iadd, 1), (144, .aload_n 0, 1), (145, .getfield 130, 3), (148, .bipush 110, 2), (150, .iload_n 2, 1), (151, .iadd, 1), (152, .iaload, 1), (153, .iastore, 1), (154, .iinc 2 1, 3), (157, .goto (-27), 3), (160, .iconst 0, 1), (161, .ireturn, 1)]
def zq_L186 : List (Nat × Instr × Nat) := [(0, .iload_n 1, 1), (1, .iconst 1, 1), (2, .if_icmp .ne 125, 3), (5, .aload_n 0, 1), (6, .getfield 130, 3), (9, .iload_n 2, 1), (10, .aload_n 0, 1), (11, .iconst 0, 1), (12, .bipush 20, 2), (14, .bipush 6, 2), (16, .invokevirtual 280, 3), (19, .iastore, 1), (20, .aload_n 0, 1), (21, .dup, 1), (22, .getfield 203, 3), (25, .aload_n 0, 1), (26, .getfield 206, 3), (29, .ifCond .le 7, 3), (32, .iconst 0, 1), (33, .goto 4, 3), (36, .iconst 1, 1), (37, .iadd, 1), (38, .putfield 203, 3), (41, .aload_n 0, 1), (42, .getfield 130, 3), (45, .iload_n 2, 1), (46, .iconst 1, 1), (47, .iadd, 1), (48, .aload_n 0, 1), (49, .iconst 0, 1), (50, .bipush 20, 2), (52, .bipush 6, 2), (54, .invokevirtual 280, 3), (57, .iastore, 1), (58, .aload_n 0, 1), (59, .getfield 206, 3), (62, .ifCond .ne 25, 3), (65, .aload_n 0, 1), (66, .getfield 130, 3), (69, .iload_n 2, 1), (70, .iaload, 1), (71, .aload_n 0, 1), (72, .getfield 130, 3), (75, .iload_n 2, 1), (76, .iconst 1, 1), (77, .iadd, 1), (78, .iaload, 1), (79, .if_icmp .ne 8, 3), (82, .aload_n 0, 1), (83, .iconst 3, 1), (84, .invokevirtual 212, 3), (87, .aload_n 0, 1), (88, .dup, 1), (89, .getfield 203, 3), (92, .aload_n 0, 1), (93, .getfield 206, 3), (96, .ifCond .le 7, 3), (99, .iconst 0, 1), (100, .goto 4, 3), (103, .iconst 1, 1), (104, .iadd, 1), (105, .putfield 203, 3), (108, .aload_n 0, 1), (109, .getfield 130, 3), (112, .iload_n 2, 1), (113, .iconst 2, 1), (114, .iadd, 1), (115, .aload_n 0, 1), (116, .iconst 0, 1), (117, .sipush 999, 3), (120, .invokevirtual 224, 3), (123, .iastore, 1), (124, .goto 46, 3), (127, .aload_n 0, 1), (128, .getfield 130, 3), (131, .iload_n 2, 1), (132, .iload_n 1, 1), (133, .ifCond .ne 14, 3), (136, .aload_n 0, 1), (137, .iconst 0, 1), (138, .sipush 9999, 3), (141, .invokevirtual 224, 3), (144, .goto 25, 3), (147, .iload_n 1, 1), (148, .iconst 2, 1), (149, .if_icmp .ne 13, 3), (152, .aload_n 0, 1), (153, .bipush 19, 2), (155, .iconst 3, 1), (156, .invokevirtual 273, 3), (159, .goto 10, 3), (162, .aload_n 0, 1), (163, .iconst 1, 1), (164, .bipush 13, 2), (166, .invokevirtual 224, 3), (169, .iastore, 1), (170, .return_, 1)]
def zq_L187 : List (Nat × Instr × Nat) := [(0, .aload_n 0, 1), (1, .iconst 0, 1), (2, .putfield 1, 3), (5, .aload_n 0, 1), (6, .iload_n 1, 1), (7, .invokevirtual 359, 3), (10, .ifCond .eq 12, 3), (13, .iload_n 2, 1), (14, .iconst 0, 1), (15, .iconst 4, 1), (16, .invokestatic 245, 3), (19, .ifCond .ne 5, 3), (22, .iconst (-1), 1), (23, .ireturn, 1), (24, .aload_n 0, 1), (25, .iconst 0, 1), (26, .invokevirtual 353, 3), (29, .iload_n 2, 1), (30, .iconst 3, 1), (31, .if_icmp .ge 12, 3), (34, .aload_n 0, 1), (35, .iload_n 1, 1), (36, .iload_n 2, 1), (37, .invokevirtual 335, 3), (40, .goto 30, 3), (43, .iload_n 2, 1), (44, .iconst 3, 1), (45, .if_icmp .ne 12, 3), (48, .aload_n 0, 1), (49, .getfield 149, 3), (52, .iload_n 1, 1), (53, .iaload, 1), (54, .goto 16, 3), (57, .aload_n 0, 1), (58, .iload_n 1, 1), (59, .invokevirtual 347, 3), (62, .ifCond .eq 7, 3), (65, .iconst 1, 1), (66, .goto 4, 3), (69, .iconst 0, 1), (70, .ireturn, 1)]
def zq_L188 : List (Nat × Instr × Nat) := [(0, .iload_n 1, 1), (1, .ifCond .lt 15, 3), (4, .iload_n 1, 1), (5, .aload_n 0, 1), (6, .invokevirtual 315, 3), (9, .if_icmp .ge 7, 3), (12, .iconst 1, 1), (13, .goto 4, 3), (16, .iconst 0, 1), (17, .ireturn, 1)]
def zq_L189 : List (Nat × Instr × Nat) := [(0, .aload_n 0, 1), (1, .invokevirtual 350, 3), (4, .iconst 0, 1), (5, .istore_n 2, 1), (6, .iload_n 2, 1), (7, .bipush 6, 2), (9, .if_icmp .ge 37, 3), (12, .aload_n 0, 1), (13, .getfield 149, 3), (16, .iload_n 2, 1), (17, .iload_n 2, 1), (18, .aload_n 0, 1), (19, .invokevirtual 315, 3), (22, .if_icmp .ge 16, 3), (25, .aload_n 0, 1), (26, .getfield 139, 3), (29, .iload_n 1, 1), (30, .iconst 4, 1), (31, .iadd, 1), (32, .iload_n 2, 1), (33, .iadd, 1), (34, .iaload, 1), (35, .goto 4, 3), (38, .iconst (-1), 1), (39, .iastore, 1), (40, .iinc 2 1, 3), (43, .goto (-37), 3), (46, .return_, 1)]
def zq_L190 : List (Nat × Instr × Nat) := [(0, .iconst 0, 1), (1, .istore_n 1, 1), (2, .iload_n 1, 1), (3, .aload_n 0, 1), (4, .invokevirtual 319, 3), (7, .if_icmp .ge 42, 3), (10, .iconst 0, 1), (11, .istore_n 2, 1), (12, .iload_n 2, 1), (13, .aload_n 0, 1), (14, .invokevirtual 315, 3), (17, .if_icmp .ge 26, 3), (20, .aload_n 0, 1), (21, .getfield 146, 3), (24, .bipush 6, 2), (26, .iload_n 1, 1), (27, .imul, 1), (28, .iload_n 2, 1), (29, .iadd, 1), (30, .aload_n 0, 1), (31, .iload_n 1, 1), (32, .iload_n 2, 1), (33, .invokevirtual 344, 3), (36, .iastore, 1), (37, .iinc 2 1, 3), (40, .goto (-28), 3), (43, .iinc 1 1, 3), (46, .goto (-44), 3), (49, .return_, 1)]
def zq_L191 : List (Nat × Instr × Nat) := [(0, .aload_n 0, 1), (1, .iload_n 1, 1), (2, .iload_n 2, 1), (3, .invokevirtual 338, 3), (6, .aload_n 0, 1), (7, .iload_n 2, 1), (8, .iconst 0, 1), (9, .invokevirtual 335, 3), (12, .iconst 1, 1), (13, .if_icmp .ne 12, 3), (16, .aload_n 0, 1), (17, .getfield 133, 3), (20, .iconst 1, 1), (21, .iaload, 1), (22, .goto 9, 3), (25, .aload_n 0, 1), (26, .getfield 133, 3), (29, .iconst 0, 1), (30, .iaload, 1), (31, .istore_n 3, 1), (32, .aload_n 0, 1), (33, .getfield 109, 3), (36, .bipush 7, 2), (38, .iaload, 1), (39, .ifCond .ge 7, 3), (42, .iload_n 3, 1), (43, .goto 14, 3), (46, .aload_n 0, 1), (47, .aload_n 0, 1), (48, .getfield 109, 3), (51, .bipush 7, 2), (53, .iaload, 1), (54, .invokevirtual 341, 3), (57, .istore_n 3, 1), (58, .iload_n 3, 1), (59, .ifCond .ge 7, 3), (62, .iconst 0, 1), (63, .goto 15, 3), (66, .iload_n 3, 1), (67, .bipush 99, 2), (69, .if_icmp .le 8, 3), (72, .bipush 99, 2), (74, .goto 4, 3), (77, .iload_n 3, 1), (78, .ireturn, 1)]
def zq_L192 : List (Nat × Instr × Nat) := [(0, .aload_n 0, 1), (1, .getfield 133, 3), (4, .iconst 0, 1), (5, .aload_n 0, 1), (6, .iload_n 1, 1), (7, .iconst 0, 1), (8, .invokevirtual 322, 3), (11, .iastore, 1), (12, .aload_n 0, 1), (13, .getfield 133, 3), (16, .iconst 1, 1), (17, .aload_n 0, 1), (18, .iload_n 1, 1), (19, .iconst 1, 1), (20, .invokevirtual 322, 3), (23, .iastore, 1), (24, .aload_n 0, 1), (25, .getfield 133, 3), (28, .iconst 2, 1), (29, .aload_n 0, 1), (30, .iload_n 2, 1), (31, .iconst 1, 1), (32, .invokevirtual 335, 3), (35, .iastore, 1), (36, .aload_n 0, 1), (37, .getfield 133, 3), (40, .iconst 3, 1), (41, .aload_n 0, 1), (42, .iload_n 2, 1), (43, .iconst 0, 1), (44, .invokevirtual 335, 3), (47, .iastore, 1), (48, .return_, 1)]
def zq_L193 : List (Nat × Instr × Nat) := [(0, .aload_n 0, 1), (1, .getfield 109, 3), (4, .bipush 10, 2), (6, .iconst 3, 1), (7, .iload_n 1, 1), (8, .imul, 1), (9, .iadd, 1), (10, .iload_n 2, 1), (11, .iadd, 1), (12, .iaload, 1), (13, .ireturn, 1)]
def zq_L194 : List (Nat × Instr × Nat) := [(0, .iconst 0, 1), (1, .istore_n 2, 1), (2, .iload_n 1, 1), (3, .istore_n 3, 1), (4, .aload_n 0, 1), (5, .getfield 112, 3), (8, .iload_n 3, 1), (9, .iaload, 1), (10, .ifCond .eq 130, 3), (13, .aload_n 0, 1), (14, .getfield 112, 3), (17, .iload_n 3, 1), (18, .iaload, 1), (19, .istore 4, 2), (21, .iload 4, 2), (23, .iconst 1, 1), (24, .if_icmp .eq 9, 3), (27, .iload 4, 2), (29, .iconst 2, 1), (30, .if_icmp .ne 41, 3), (33, .aload_n 0, 1), (34, .getfield 136, 3), (37, .iload_n 2, 1), (38, .iload 4, 2), (40, .iconst 1, 1), (41, .if_icmp .ne 12, 3), (44, .aload_n 0, 1), (45, .getfield 115, 3), (48, .iload_n 3, 1), (49, .iaload, 1), (50, .goto 14, 3), (53, .aload_n 0, 1), (54, .getfield 133, 3), (57, .aload_n 0, 1), (58, .getfield 115, 3), (61, .iload_n 3, 1), (62, .iaload, 1), (63, .iaload, 1), (64, .iastore, 1), (65, .iinc 2 1, 3), (68, .goto 66, 3), (71, .iload 4, 2), (73, .iconst 3, 1), (74, .if_icmp .ne 30, 3), (77, .aload_n 0, 1), (78, .getfield 136, 3), (81, .iload_n 2, 1), (82, .iconst 1, 1), (83, .isub, 1), (84, .aload_n 0, 1), (85, .getfield 136, 3), (88, .iload_n 2, 1), (89, .iconst 1, 1), (90, .isub, 1), (91, .iaload, 1), (92, .ifCond .ne 7, 3), (95, .iconst 1, 1), (96, .goto 4, 3), (99, .iconst 0, 1), (100, .iastore, 1), (101, .goto 33, 3), (104, .iinc 2 (-1), 3), (107, .aload_n 0, 1), (108, .getfield 136, 3), (111, .iload_n 2, 1), (112, .iconst 1, 1), (113, .isub, 1), (114, .iload 4, 2), (116, .aload_n 0, 1), (117, .getfield 136, 3), (120, .iload_n 2, 1), (121, .iconst 1, 1), (122, .isub, 1), (123, .iaload, 1), (124, .aload_n 0, 1), (125, .getfield 136, 3), (128, .iload_n 2, 1), (129, .iaload, 1), (130, .invokestatic 312, 3), (133, .iastore, 1), (134, .iinc 3 1, 3), (137, .goto (-133), 3), (140, .aload_n 0, 1), (141, .getfield 136, 3), (144, .iconst 0, 1), (145, .iaload, 1), (146, .ireturn, 1)]
def zq_L195 : List (Nat × Instr × Nat) := [(0, .iload_n 0, 1), (1, .tableswitch 87 4 9 #[39, 43, 47, 51, 62, 73], 39), (40, .iload_n 1, 1), (41, .iload_n 2, 1), (42, .iadd, 1), (43, .ireturn, 1), (44, .iload_n 1, 1), (45, .iload_n 2, 1), (46, .isub, 1), (47, .ireturn, 1), (48, .iload_n 1, 1), (49, .iload_n 2, 1), (50, .imul, 1), (51, .ireturn, 1), (52, .iload_n 1, 1), (53, .iload_n 2, 1), (54, .if_icmp .ge 7, 3), (57, .iconst 1, 1), (58, .goto 4, 3), (61, .iconst 0, 1), (62, .ireturn, 1), (63, .iload_n 1, 1), (64, .iload_n 2, 1), (65, .if_icmp .ne 7, 3), (68, .iconst 1, 1), (69, .goto 4, 3), (72, .iconst 0, 1), (73, .ireturn, 1), (74, .iload_n 1, 1), (75, .ifCond .eq 11, 3), (78, .iload_n 2, 1), (79, .ifCond .eq 7, 3), (82, .iconst 1, 1), (83, .goto 4, 3), (86, .iconst 0, 1), (87, .ireturn, 1), (88, .iload_n 1, 1), (89, .ifCond .ne 7, 3), (92, .iload_n 2, 1), (93, .ifCond .eq 7, 3), (96, .iconst 1, 1), (97, .goto 4, 3), (100, .iconst 0, 1), (101, .ireturn, 1)]
def zq_L196 : List (Nat × Instr × Nat) := [(0, .aload_n 0, 1), (1, .getfield 149, 3), (4, .iload_n 1, 1), (5, .iaload, 1), (6, .ifCond .lt 7, 3), (9, .iconst 1, 1), (10, .goto 4, 3), (13, .iconst 0, 1), (14, .istore_n 2, 1), (15, .iload_n 1, 1), (16, .istore_n 3, 1), (17, .iload_n 2, 1), (18, .ifCond .eq 63, 3), (21, .aload_n 0, 1), (22, .iload_n 3, 1), (23, .iconst 2, 1), (24, .invokevirtual 335, 3), (27, .ifCond .lt 54, 3), (30, .aload_n 0, 1), (31, .iload_n 3, 1), (32, .iconst 2, 1), (33, .invokevirtual 335, 3), (36, .istore_n 3, 1), (37, .aload_n 0, 1), (38, .getfield 149, 3), (41, .iload_n 3, 1), (42, .iaload, 1), (43, .ifCond .lt 33, 3), (46, .aload_n 0, 1), (47, .getfield 146, 3), (50, .bipush 6, 2), (52, .aload_n 0, 1), (53, .getfield 149, 3), (56, .iload_n 3, 1), (57, .iaload, 1), (58, .imul, 1), (59, .iload_n 3, 1), (60, .iadd, 1), (61, .iaload, 1), (62, .aload_n 0, 1), (63, .getfield 109, 3), (66, .bipush 6, 2), (68, .iaload, 1), (69, .if_icmp .lt 7, 3), (72, .iconst 1, 1), (73, .goto 4, 3), (76, .iconst 0, 1), (77, .istore_n 2, 1), (78, .goto (-61), 3), (81, .iload_n 2, 1), (82, .ireturn, 1)]
def zq_L197 : List (Nat × Instr × Nat) := [(0, .aload_n 0, 1), (1, .iconst 0, 1), (2, .putfield 1, 3), (5, .aload_n 0, 1), (6, .iload_n 1, 1), (7, .invokevirtual 362, 3), (10, .ifCond .eq 12, 3), (13, .iload_n 2, 1), (14, .iconst 0, 1), (15, .iconst 3, 1), (16, .invokestatic 245, 3), (19, .ifCond .ne 7, 3), (22, .iconst (-1), 1), (23, .goto 40, 3), (26, .iload_n 2, 1), (27, .iconst 2, 1), (28, .if_icmp .ge 12, 3), (31, .aload_n 0, 1), (32, .iload_n 1, 1), (33, .iload_n 2, 1), (34, .invokevirtual 322, 3), (37, .goto 26, 3), (40, .iload_n 2, 1), (41, .iconst 2, 1), (42, .if_icmp .ne 15, 3), (45, .aload_n 0, 1), (46, .getfield 139, 3), (49, .bipush 10, 2), (51, .iload_n 1, 1), (52, .iadd, 1), (53, .iaload, 1), (54, .goto 9, 3), (57, .aload_n 0, 1), (58, .iconst 0, 1), (59, .iload_n 1, 1), (60, .invokevirtual 365, 3), (63, .ireturn, 1)]
def zq_L198 : List (Nat × Instr × Nat) := [(0, .iload_n 1, 1), (1, .ifCond .lt 15, 3), (4, .iload_n 1, 1), (5, .aload_n 0, 1), (6, .invokevirtual 319, 3), (9, .if_icmp .ge 7, 3), (12, .iconst 1, 1), (13, .goto 4, 3), (16, .iconst 0, 1), (17, .ireturn, 1)]
def zq_L199 : List (Nat × Instr × Nat) := [(0, .iconst (-1), 1), (1, .istore_n 3, 1), (2, .iconst 0, 1), (3, .istore 4, 2), (5, .iload 4, 2), (7, .aload_n 0, 1), (8, .invokevirtual 315, 3), (11, .if_icmp .ge 31, 3), (14, .aload_n 0, 1), (15, .getfield 139, 3), (18, .iload_n 1, 1), (19, .iconst 4, 1), (20, .iadd, 1), (21, .iload 4, 2), (23, .iadd, 1), (24, .iaload, 1), (25, .iload_n 2, 1), (26, .if_icmp .ne 8, 3), (29, .iload 4, 2), (31, .goto 4, 3), (34, .iload_n 3, 1), (35, .istore_n 3, 1), (36, .iinc 4 1, 3), (39, .goto (-34), 3), (42, .iload_n 3, 1), (43, .ireturn, 1)]
def zq_L200 : List (Nat × Instr × Nat) := [(0, .aload_n 0, 1), (1, .iconst 0, 1), (2, .putfield 1, 3), (5, .aload_n 0, 1), (6, .iload_n 1, 1), (7, .invokevirtual 362, 3), (10, .ifCond .eq 20, 3), (13, .aload_n 0, 1), (14, .iload_n 2, 1), (15, .invokevirtual 359, 3), (18, .ifCond .eq 12, 3), (21, .aload_n 0, 1), (22, .iload_n 1, 1), (23, .iload_n 2, 1), (24, .invokevirtual 344, 3), (27, .goto 4, 3), (30, .iconst (-1), 1), (31, .ireturn, 1)]
def zq_L201 : List (Nat × Instr × Nat) := [(0, .aload_n 0, 1), (1, .iconst 0, 1), (2, .putfield 1, 3), (5, .aload_n 0, 1), (6, .iconst 0, 1), (7, .invokevirtual 368, 3), (10, .ireturn, 1)]
def zq_L202 : List (Nat × Instr × Nat) := [(0, .aload_n 0, 1), (1, .iload_n 1, 1), (2, .invokevirtual 353, 3), (5, .aload_n 0, 1), (6, .invokevirtual 356, 3), (9, .ireturn, 1)]
def zq_L203 : List (Nat × Instr × Nat) := [(0, .iconst 0, 1), (1, .istore_n 1, 1), (2, .iconst 0, 1), (3, .istore_n 2, 1), (4, .iload_n 2, 1), (5, .aload_n 0, 1), (6, .invokevirtual 315, 3), (9, .if_icmp .ge 81, 3), (12, .aload_n 0, 1), (13, .iload_n 2, 1), (14, .iconst 0, 1), (15, .invokevirtual 335, 3), (18, .istore_n 3, 1), (19, .aload_n 0, 1), (20, .iload_n 2, 1), (21, .invokevirtual 347, 3), (24, .ifCond .eq 29, 3), (27, .aload_n 0, 1), (28, .getfield 146, 3), (31, .bipush 6, 2), (33, .aload_n 0, 1), (34, .getfield 149, 3), (37, .iload_n 2, 1), (38, .iaload, 1), (39, .imul, 1), (40, .iload_n 2, 1), (41, .iadd, 1), (42, .iaload, 1), (43, .aload_n 0, 1), (44, .iload_n 2, 1), (45, .iconst 1, 1), (46, .invokevirtual 335, 3), (49, .imul, 1), (50, .goto 4, 3), (53, .iconst 0, 1), (54, .istore 4, 2), (56, .iload_n 1, 1), (57, .iload_n 3, 1), (58, .iconst 2, 1), (59, .if_icmp .ne 10, 3), (62, .iload 4, 2), (64, .iconst 2, 1), (65, .idiv, 1), (66, .goto 16, 3), (69, .iload_n 3, 1), (70, .iconst 3, 1), (71, .if_icmp .ne 9, 3), (74, .iload 4, 2), (76, .ineg, 1), (77, .goto 5, 3), (80, .iload 4, 2), (82, .iadd, 1), (83, .istore_n 1, 1), (84, .iinc 2 1, 3), (87, .goto (-83), 3), (90, .iload_n 1, 1), (91, .ifCond .ge 7, 3), (94, .iconst 0, 1), (95, .goto 4, 3), (98, .iload_n 1, 1), (99, .ireturn, 1)]
def zq_L204 : List (Nat × Instr × Nat) := [(0, .aload_n 0, 1), (1, .iconst 0, 1), (2, .putfield 1, 3), (5, .iload_n 1, 1), (6, .iconst 0, 1), (7, .sipush 9999, 3), (10, .invokestatic 245, 3), (13, .ifCond .ne 5, 3), (16, .iconst 0, 1), (17, .ireturn, 1), (18, .aload_n 0, 1), (19, .invokevirtual 389, 3), (22, .aload_n 0, 1), (23, .iload_n 1, 1), (24, .i2l, 1), (25, .putfield 374, 3), (28, .aload_n 0, 1), (29, .iconst 0, 1), (30, .invokevirtual 392, 3), (33, .iconst 1, 1), (34, .ireturn, 1)]
def zq_L205 : List (Nat × Instr × Nat) := [(0, .aload_n 0, 1), (1, .getfield 328, 3), (4, .bipush 16, 2), (6, .if_icmp .ne 47, 3), (9, .iconst 1, 1), (10, .istore_n 1, 1), (11, .iload_n 1, 1), (12, .bipush 16, 2), (14, .if_icmp .ge 29, 3), (17, .aload_n 0, 1), (18, .bipush 40, 2), (20, .iconst 5, 1), (21, .iload_n 1, 1), (22, .iadd, 1), (23, .imul, 1), (24, .bipush 40, 2), (26, .iconst 5, 1), (27, .iload_n 1, 1), (28, .iadd, 1), (29, .iconst 1, 1), (30, .isub, 1), (31, .imul, 1), (32, .bipush 16, 2), (34, .invokevirtual 331, 3), (37, .iinc 1 1, 3), (40, .goto (-29), 3), (43, .aload_n 0, 1), (44, .dup, 1), (45, .getfield 328, 3), (48, .iconst 1, 1), (49, .isub, 1), (50, .putfield 328, 3), (53, .aload_n 0, 1), (54, .iconst 0, 1), (55, .bipush 40, 2), (57, .iconst 5, 1), (58, .aload_n 0, 1), (59, .getfield 328, 3), (62, .iadd, 1), (63, .imul, 1), (64, .bipush 16, 2), (66, .invokevirtual 331, 3), (69, .aload_n 0, 1), (70, .dup, 1), (71, .getfield 328, 3), (74, .iconst 1, 1), (75, .iadd, 1), (76, .putfield 328, 3), (79, .return_, 1)]
def zq_L206 : List (Nat × Instr × Nat) := [(0, .iconst 0, 1), (1, .istore 4, 2), (3, .iload 4, 2), (5, .iload_n 3, 1), (6, .if_icmp .ge 27, 3), (9, .aload_n 0, 1), (10, .getfield 139, 3), (13, .iload_n 2, 1), (14, .iload 4, 2), (16, .iadd, 1), (17, .aload_n 0, 1), (18, .getfield 139, 3), (21, .iload_n 1, 1), (22, .iload 4, 2), (24, .iadd, 1), (25, .iaload, 1), (26, .iastore, 1), (27, .iinc 4 1, 3), (30, .goto (-27), 3), (33, .return_, 1)]
def zq_L207 : List (Nat × Instr × Nat) := [(0, .iconst 0, 1), (1, .istore_n 2, 1), (2, .iload_n 2, 1), (3, .aload_n 0, 1), (4, .invokevirtual 319, 3), (7, .if_icmp .ge 16, 3), (10, .aload_n 0, 1), (11, .getfield 152, 3), (14, .iload_n 2, 1), (15, .iload_n 2, 1), (16, .iastore, 1), (17, .iinc 2 1, 3), (20, .goto (-18), 3), (23, .aload_n 0, 1), (24, .invokevirtual 319, 3), (27, .iconst 1, 1), (28, .isub, 1), (29, .istore_n 2, 1), (30, .iload_n 2, 1), (31, .ifCond .le 45, 3), (34, .aload_n 0, 1), (35, .iload_n 2, 1), (36, .iconst 1, 1), (37, .iadd, 1), (38, .invokevirtual 386, 3), (41, .istore_n 3, 1), (42, .aload_n 0, 1), (43, .getfield 152, 3), (46, .iload_n 2, 1), (47, .iaload, 1), (48, .istore 4, 2), (50, .aload_n 0, 1), (51, .getfield 152, 3), (54, .iload_n 2, 1), (55, .aload_n 0, 1), (56, .getfield 152, 3), (59, .iload_n 3, 1), (60, .iaload, 1), (61, .iastore, 1), (62, .aload_n 0, 1), (63, .getfield 152, 3), (66, .iload_n 3, 1), (67, .iload 4, 2), (69, .iastore, 1), (70, .iinc 2 (-1), 3), (73, .goto (-43), 3), (76, .iconst 0, 1), (77, .istore_n 2, 1), (78, .iload_n 2, 1), (79, .bipush 6, 2), (81, .if_icmp .ge 45, 3), (84, .aload_n 0, 1), (85, .getfield 139, 3), (88, .iload_n 1, 1), (89, .iconst 4, 1), (90, .iadd, 1), (91, .iload_n 2, 1), (92, .iadd, 1), (93, .iload_n 2, 1), (94, .aload_n 0, 1), (95, .invokevirtual 315, 3), (98, .if_icmp .ge 20, 3), (101, .iload_n 2, 1), (102, .aload_n 0, 1), (103, .invokevirtual 319, 3), (106, .if_icmp .ge 12, 3), (109, .aload_n 0, 1), (110, .getfield 152, 3), (113, .iload_n 2, 1), (114, .iaload, 1), (115, .goto 4, 3), (118, .iconst (-1), 1), (119, .iastore, 1), (120, .iinc 2 1, 3), (123, .goto (-45), 3), (126, .aload_n 0, 1), (127, .getfield 139, 3), (130, .iload_n 1, 1), (131, .iconst 3, 1), (132, .iadd, 1), (133, .aload_n 0, 1), (134, .getfield 139, 3), (137, .iload_n 1, 1), (138, .iconst 0, 1), (139, .iadd, 1), (140, .iaload, 1), (141, .iastore, 1), (142, .return_, 1)]
def zq_L208 : List (Nat × Instr × Nat) := [(0, .aload_n 0, 1), (1, .aload_n 0, 1), (2, .getfield 374, 3), (5, .ldc2_w 378, 3), (8, .lmul, 1), (9, .ldc2_w 380, 3), (12, .ladd, 1), (13, .ldc2_w 382, 3), (16, .lrem, 1), (17, .putfield 374, 3), (20, .aload_n 0, 1), (21, .getfield 374, 3), (24, .ldc2_w 384, 3), (27, .ldiv, 1), (28, .iload_n 1, 1), (29, .i2l, 1), (30, .lrem, 1), (31, .l2i, 1), (32, .ireturn, 1)]
def zq_L209 : List (Nat × Instr × Nat) := [(0, .aload_n 0, 1), (1, .iconst 0, 1), (2, .putfield 1, 3), (5, .aload_n 0, 1), (6, .iload_n 1, 1), (7, .invokevirtual 362, 3), (10, .ifCond .eq 33, 3), (13, .aload_n 0, 1), (14, .iload_n 2, 1), (15, .invokevirtual 362, 3), (18, .ifCond .eq 25, 3), (21, .iload_n 3, 1), (22, .iconst 0, 1), (23, .sipush 999, 3), (26, .invokestatic 245, 3), (29, .ifCond .eq 14, 3), (32, .aload_n 0, 1), (33, .iconst 0, 1), (34, .iload_n 1, 1), (35, .iload_n 2, 1), (36, .iload_n 3, 1), (37, .invokevirtual 395, 3), (40, .ifCond .ne 5, 3), (43, .iconst 0, 1), (44, .ireturn, 1), (45, .aload_n 0, 1), (46, .invokevirtual 389, 3), (49, .aload_n 0, 1), (50, .iconst 0, 1), (51, .iload_n 1, 1), (52, .iload_n 2, 1), (53, .iload_n 3, 1), (54, .invokevirtual 399, 3), (57, .iconst 1, 1), (58, .ireturn, 1)]
def zq_L210 : List (Nat × Instr × Nat) := [(0, .iload_n 2, 1), (1, .iload_n 3, 1), (2, .if_icmp .eq 32, 3), (5, .aload_n 0, 1), (6, .iload_n 1, 1), (7, .iload_n 2, 1), (8, .invokevirtual 365, 3), (11, .ifCond .lt 23, 3), (14, .aload_n 0, 1), (15, .getfield 139, 3), (18, .iload_n 1, 1), (19, .bipush 10, 2), (21, .iadd, 1), (22, .iload_n 3, 1), (23, .iadd, 1), (24, .iaload, 1), (25, .iload 4, 2), (27, .if_icmp .lt 7, 3), (30, .iconst 1, 1), (31, .goto 4, 3), (34, .iconst 0, 1), (35, .ireturn, 1)]
def zq_L211 : List (Nat × Instr × Nat) := [(0, .aload_n 0, 1), (1, .iload_n 1, 1), (2, .iload_n 2, 1), (3, .invokevirtual 365, 3), (6, .istore 5, 2), (8, .aload_n 0, 1), (9, .iload_n 1, 1), (10, .iload_n 3, 1), (11, .invokevirtual 365, 3), (14, .istore 6, 2), (16, .aload_n 0, 1), (17, .getfield 139, 3), (20, .iload_n 1, 1), (21, .iconst 4, 1), (22, .iadd, 1), (23, .iload 5, 2), (25, .iadd, 1), (26, .iload_n 3, 1), (27, .iastore, 1), (28, .iload 6, 2), (30, .ifCond .lt 15, 3), (33, .aload_n 0, 1), (34, .getfield 139, 3), (37, .iload_n 1, 1), (38, .iconst 4, 1), (39, .iadd, 1), (40, .iload 6, 2), (42, .iadd, 1), (43, .iload_n 2, 1), (44, .iastore, 1), (45, .aload_n 0, 1), (46, .getfield 139, 3), (49, .iload_n 1, 1), (50, .bipush 10, 2), (52, .iadd, 1), (53, .iload_n 2, 1), (54, .iadd, 1), (55, .dup2, 1), (56, .iaload, 1), (57, .iload 4, 2), (59, .iadd, 1), (60, .iastore, 1), (61, .aload_n 0, 1), (62, .getfield 139, 3), (65, .iload_n 1, 1), (66, .bipush 10, 2), (68, .iadd, 1), (69, .iload_n 3, 1), (70, .iadd, 1), (71, .dup2, 1), (72, .iaload, 1), (73, .iload 4, 2), (75, .isub, 1), (76, .iastore, 1), (77, .return_, 1)]
def zq_L212 : List (Nat × Instr × Nat) := [(0, .aload_n 0, 1), (1, .iconst 0, 1), (2, .putfield 1, 3), (5, .iload_n 1, 1), (6, .iconst 0, 1), (7, .iconst 2, 1), (8, .invokestatic 245, 3), (11, .ifCond .eq 13, 3), (14, .aload_n 0, 1), (15, .getfield 139, 3), (18, .iconst 2, 1), (19, .iaload, 1), (20, .iload_n 1, 1), (21, .if_icmp .ne 5, 3), (24, .iconst 0, 1), (25, .ireturn, 1), (26, .aload_n 0, 1), (27, .invokevirtual 389, 3), (30, .aload_n 0, 1), (31, .getfield 139, 3), (34, .iconst 2, 1), (35, .iload_n 1, 1), (36, .iastore, 1), (37, .iconst 1, 1), (38, .ireturn, 1)]
def zq_L213 : List (Nat × Instr × Nat) := [(0, .aload_n 0, 1), (1, .iconst 0, 1), (2, .putfield 1, 3), (5, .iload_n 1, 1), (6, .iconst 1, 1), (7, .bipush 13, 2), (9, .invokestatic 245, 3), (12, .ifCond .eq 24, 3), (15, .aload_n 0, 1), (16, .aload_n 0, 1), (17, .getfield 139, 3), (20, .iconst 1, 1), (21, .iaload, 1), (22, .invokevirtual 403, 3), (25, .ifCond .ne 11, 3), (28, .aload_n 0, 1), (29, .iconst 0, 1), (30, .invokevirtual 406, 3), (33, .ifCond .eq 5, 3), (36, .iconst (-1), 1), (37, .ireturn, 1), (38, .aload_n 0, 1), (39, .invokevirtual 389, 3), (42, .aload_n 0, 1), (43, .iconst 0, 1), (44, .iload_n 1, 1), (45, .invokevirtual 415, 3), (48, .ireturn, 1)]
def zq_L214 : List (Nat × Instr × Nat) := [(0, .iload_n 1, 1), (1, .ifCond .eq 11, 3), (4, .iload_n 1, 1), (5, .aload_n 0, 1), (6, .invokevirtual 371, 3), (9, .if_icmp .ne 7, 3), (12, .iconst 1, 1), (13, .goto 4, 3), (16, .iconst 0, 1), (17, .ireturn, 1)]
def zq_L215 : List (Nat × Instr × Nat) := [(0, .aload_n 0, 1), (1, .getfield 109, 3), (4, .iconst 2, 1), (5, .iaload, 1), (6, .ireturn, 1)]
def zq_L216 : List (Nat × Instr × Nat) := [(0, .aload_n 0, 1), (1, .getfield 139, 3), (4, .iload_n 1, 1), (5, .iconst 0, 1), (6, .iadd, 1), (7, .iaload, 1), (8, .ifCond .le 44, 3), (11, .aload_n 0, 1), (12, .getfield 139, 3), (15, .iload_n 1, 1), (16, .iconst 0, 1), (17, .iadd, 1), (18, .iaload, 1), (19, .aload_n 0, 1), (20, .getfield 109, 3), (23, .iconst 5, 1), (24, .iaload, 1), (25, .irem, 1), (26, .ifCond .ne 26, 3), (29, .aload_n 0, 1), (30, .getfield 139, 3), (33, .iload_n 1, 1), (34, .iconst 3, 1), (35, .iadd, 1), (36, .iaload, 1), (37, .aload_n 0, 1), (38, .getfield 139, 3), (41, .iload_n 1, 1), (42, .iconst 0, 1), (43, .iadd, 1), (44, .iaload, 1), (45, .if_icmp .eq 7, 3), (48, .iconst 1, 1), (49, .goto 4, 3), (52, .iconst 0, 1), (53, .ireturn, 1)]
def zq_L217 : List (Nat × Instr × Nat) := [(0, .iconst 0, 1), (1, .istore_n 3, 1), (2, .aload_n 0, 1), (3, .iload_n 1, 1), (4, .invokevirtual 368, 3), (7, .istore 4, 2), (9, .iload_n 3, 1), (10, .iload_n 2, 1), (11, .if_icmp .ge 85, 3), (14, .aload_n 0, 1), (15, .aload_n 0, 1), (16, .getfield 139, 3), (19, .iload_n 1, 1), (20, .iconst 1, 1), (21, .iadd, 1), (22, .iaload, 1), (23, .invokevirtual 403, 3), (26, .ifCond .ne 70, 3), (29, .aload_n 0, 1), (30, .iload_n 1, 1), (31, .invokevirtual 406, 3), (34, .ifCond .ne 62, 3), (37, .aload_n 0, 1), (38, .getfield 139, 3), (41, .iload_n 1, 1), (42, .iconst 1, 1), (43, .iadd, 1), (44, .aload_n 0, 1), (45, .aload_n 0, 1), (46, .getfield 139, 3), (49, .iload_n 1, 1), (50, .iconst 1, 1), (51, .iadd, 1), (52, .iaload, 1), (53, .aload_n 0, 1), (54, .iload 4, 2), (56, .aload_n 0, 1), (57, .getfield 109, 3), (60, .iconst 4, 1), (61, .iaload, 1), (62, .aload_n 0, 1), (63, .getfield 139, 3), (66, .iload_n 1, 1), (67, .iconst 2, 1), (68, .iadd, 1), (69, .iaload, 1), (70, .invokevirtual 409, 3), (73, .iadd, 1), (74, .invokevirtual 412, 3), (77, .iastore, 1), (78, .aload_n 0, 1), (79, .getfield 139, 3), (82, .iload_n 1, 1), (83, .iconst 0, 1), (84, .iadd, 1), (85, .dup2, 1), (86, .iaload, 1), (87, .iconst 1, 1), (88, .iadd, 1), (89, .iastore, 1), (90, .iinc 3 1, 3), (93, .goto (-84), 3), (96, .iload_n 3, 1), (97, .ireturn, 1)]
def zq_L218 : List (Nat × Instr × Nat) := [(0, .aload_n 0, 1), (1, .getfield 133, 3), (4, .iconst 4, 1), (5, .iload_n 1, 1), (6, .iastore, 1), (7, .aload_n 0, 1), (8, .getfield 133, 3), (11, .iconst 5, 1), (12, .iload_n 2, 1), (13, .iastore, 1), (14, .aload_n 0, 1), (15, .getfield 133, 3), (18, .bipush 6, 2), (20, .iload_n 3, 1), (21, .iastore, 1), (22, .iload_n 3, 1), (23, .iconst 2, 1), (24, .if_icmp .ne 7, 3), (27, .iconst (-1), 1), (28, .goto 42, 3), (31, .iload_n 3, 1), (32, .iconst 1, 1), (33, .if_icmp .ne 25, 3), (36, .iload_n 1, 1), (37, .iload_n 2, 1), (38, .if_icmp .le 7, 3), (41, .iconst 1, 1), (42, .goto 28, 3), (45, .iload_n 1, 1), (46, .iload_n 2, 1), (47, .if_icmp .ge 7, 3), (50, .iconst (-1), 1), (51, .goto 19, 3), (54, .iconst 0, 1), (55, .goto 15, 3), (58, .iconst 2, 1), (59, .iload_n 1, 1), (60, .imul, 1), (61, .iload_n 2, 1), (62, .if_icmp .ge 7, 3), (65, .iconst (-1), 1), (66, .goto 4, 3), (69, .iconst 0, 1), (70, .istore 4, 2), (72, .aload_n 0, 1), (73, .getfield 109, 3), (76, .bipush 9, 2), (78, .iaload, 1), (79, .ifCond .ge 8, 3), (82, .iload 4, 2), (84, .goto 14, 3), (87, .aload_n 0, 1), (88, .aload_n 0, 1), (89, .getfield 109, 3), (92, .bipush 9, 2), (94, .iaload, 1), (95, .invokevirtual 341, 3), (98, .istore 4, 2), (100, .iload 4, 2), (102, .bipush (-3), 2), (104, .if_icmp .ge 8, 3), (107, .bipush (-3), 2), (109, .goto 15, 3), (112, .iload 4, 2), (114, .iconst 3, 1), (115, .if_icmp .le 7, 3), (118, .iconst 3, 1), (119, .goto 5, 3), (122, .iload 4, 2), (124, .ireturn, 1)]
def zq_L219 : List (Nat × Instr × Nat) := [(0, .iload_n 1, 1), (1, .ifCond .ge 7, 3), (4, .iconst 0, 1), (5, .goto 19, 3), (8, .iload_n 1, 1), (9, .aload_n 0, 1), (10, .invokevirtual 371, 3), (13, .if_icmp .le 10, 3), (16, .aload_n 0, 1), (17, .invokevirtual 371, 3), (20, .goto 4, 3), (23, .iload_n 1, 1), (24, .ireturn, 1)]
def zq_L220 : List (Nat × Instr × Nat) := [(0, .aload_n 0, 1), (1, .iconst 0, 1), (2, .putfield 1, 3), (5, .aload_n 0, 1), (6, .getfield 328, 3), (9, .ifCond .ne 5, 3), (12, .iconst 0, 1), (13, .ireturn, 1), (14, .aload_n 0, 1), (15, .dup, 1), (16, .getfield 328, 3), (19, .iconst 1, 1), (20, .isub, 1), (21, .putfield 328, 3), (24, .aload_n 0, 1), (25, .bipush 40, 2), (27, .iconst 5, 1), (28, .aload_n 0, 1), (29, .getfield 328, 3), (32, .iadd, 1), (33, .imul, 1), (34, .iconst 0, 1), (35, .bipush 16, 2), (37, .invokevirtual 331, 3), (40, .iconst 1, 1), (41, .ireturn, 1)]
def zq_L221 : List (Nat × Instr × Nat) := [(0, .aload_n 0, 1), (1, .iconst 0, 1), (2, .putfield 1, 3), (5, .iload_n 1, 1), (6, .iconst 0, 1), (7, .iconst 2, 1), (8, .invokestatic 245, 3), (11, .ifCond .ne 6, 3), (14, .bipush (-2), 2), (16, .ireturn, 1), (17, .aload_n 0, 1), (18, .sipush 840, 3), (21, .invokevirtual 325, 3), (24, .iconst (-1), 1), (25, .istore_n 2, 1), (26, .iconst 0, 1), (27, .istore_n 3, 1), (28, .iload_n 3, 1), (29, .aload_n 0, 1), (30, .getfield 130, 3), (33, .iconst 0, 1), (34, .iaload, 1), (35, .if_icmp .ge 35, 3), (38, .aload_n 0, 1), (39, .iconst 1, 1), (40, .iconst 4, 1), (41, .iload_n 3, 1), (42, .imul, 1), (43, .iadd, 1), (44, .invokevirtual 418, 3), (47, .istore 4, 2), (49, .iload 4, 2), (51, .ifCond .ne 11, 3), (54, .iload_n 2, 1), (55, .ifCond .ge 7, 3), (58, .iload_n 3, 1), (59, .goto 4, 3), (62, .iload_n 2, 1), (63, .istore_n 2, 1), (64, .iinc 3 1, 3), (67, .goto (-39), 3), (70, .iload_n 1, 1), (71, .ifCond .ne 7, 3), (74, .iload_n 2, 1), (75, .goto 27, 3), (78, .iload_n 1, 1), (79, .iconst 1, 1), (80, .if_icmp .ne 14, 3), (83, .aload_n 0, 1), (84, .getfield 139, 3), (87, .sipush 841, 3), (90, .iaload, 1), (91, .goto 11, 3), (94, .aload_n 0, 1), (95, .getfield 139, 3), (98, .sipush 840, 3), (101, .iaload, 1), (102, .ireturn, 1)]
def zq_L222 : List (Nat × Instr × Nat) := [(0, .aload_n 0, 1), (1, .getfield 130, 3), (4, .iload_n 1, 1), (5, .iaload, 1), (6, .istore_n 2, 1), (7, .aload_n 0, 1), (8, .getfield 130, 3), (11, .iload_n 1, 1), (12, .iconst 1, 1), (13, .iadd, 1), (14, .iaload, 1), (15, .istore_n 3, 1), (16, .iload_n 2, 1), (17, .ifCond .ne 18, 3), (20, .aload_n 0, 1), (21, .iload_n 3, 1), (22, .i2l, 1), (23, .putfield 374, 3), (26, .aload_n 0, 1), (27, .sipush 840, 3), (30, .invokevirtual 392, 3), (33, .iconst 1, 1), (34, .ireturn, 1), (35, .iload_n 2, 1), (36, .iconst 3, 1), (37, .if_icmp .ne 21, 3), (40, .aload_n 0, 1), (41, .sipush 840, 3), (44, .iload_n 3, 1), (45, .invokevirtual 415, 3), (48, .iload_n 3, 1), (49, .if_icmp .ne 7, 3), (52, .iconst 1, 1), (53, .goto 4, 3), (56, .iconst 0, 1), (57, .ireturn, 1), (58, .iload_n 2, 1), (59, .iconst 1, 1), (60, .if_icmp .ne 30, 3), (63, .aload_n 0, 1), (64, .sipush 840, 3), (67, .iload_n 3, 1), (68, .aload_n 0, 1), (69, .getfield 130, 3), (72, .iload_n 1, 1), (73, .iconst 2, 1), (74, .iadd, 1), (75, .iaload, 1), (76, .aload_n 0, 1), (77, .getfield 130, 3), (80, .iload_n 1, 1), (81, .iconst 3, 1), (82, .iadd, 1), (83, .iaload, 1), (84, .invokevirtual 395, 3), (87, .goto 20, 3), (90, .aload_n 0, 1), (91, .getfield 139, 3), (94, .sipush 842, 3), (97, .iaload, 1), (98, .iload_n 3, 1), (99, .if_icmp .eq 7, 3), (102, .iconst 1, 1), (103, .goto 4, 3), (106, .iconst 0, 1), (107, .istore 4, 2), (109, .iload 4, 2), (111, .ifCond .eq 35, 3), (114, .iload_n 2, 1), (115, .iconst 1, 1), (116, .if_icmp .ne 30, 3), (119, .aload_n 0, 1), (120, .sipush 840, 3), (123, .iload_n 3, 1), (124, .aload_n 0, 1), (125, .getfield 130, 3), (128, .iload_n 1, 1), (129, .iconst 2, 1), (130, .iadd, 1), (131, .iaload, 1), (132, .aload_n 0, 1), (133, .getfield 130, 3), (136, .iload_n 1, 1), (137, .iconst 3, 1), (138, .iadd, 1), (139, .iaload, 1), (140, .invokevirtual 399, 3), (143, .goto 17, 3), (146, .iload 4, 2), (148, .ifCond .eq 12, 3), (151, .aload_n 0, 1), (152, .getfield 139, 3), (155, .sipush 842, 3), (158, .iload_n 3, 1), (159, .iastore, 1), (160, .iload 4, 2), (162, .ireturn, 1)]
def zq_L223 : List (Nat × Instr × Nat) := [(0, .aload_n 0, 1), (1, .iconst 0, 1), (2, .putfield 1, 3), (5, .aload_n 0, 1), (6, .iconst 0, 1), (7, .invokevirtual 353, 3), (10, .iconst 0, 1), (11, .istore_n 1, 1), (12, .iload_n 1, 1), (13, .aload_n 0, 1), (14, .invokevirtual 315, 3), (17, .if_icmp .ge 52, 3), (20, .aload_n 0, 1), (21, .iload_n 1, 1), (22, .iconst 2, 1), (23, .invokevirtual 335, 3), (26, .istore_n 2, 1), (27, .aload_n 0, 1), (28, .getfield 149, 3), (31, .iload_n 1, 1), (32, .iaload, 1), (33, .ifCond .lt 30, 3), (36, .aload_n 0, 1), (37, .iload_n 1, 1), (38, .invokevirtual 347, 3), (41, .ifCond .ne 22, 3), (44, .aload_n 0, 1), (45, .getfield 149, 3), (48, .iload_n 2, 1), (49, .iaload, 1), (50, .ifCond .lt 11, 3), (53, .aload_n 0, 1), (54, .iload_n 2, 1), (55, .invokevirtual 347, 3), (58, .ifCond .eq 5, 3), (61, .iload_n 1, 1), (62, .ireturn, 1), (63, .iinc 1 1, 3), (66, .goto (-54), 3), (69, .iconst (-1), 1), (70, .ireturn, 1)]
def zq_L224 : List (Nat × Instr × Nat) := [(0, .aload_n 0, 1), (1, .iconst 0, 1), (2, .putfield 1, 3), (5, .iload_n 1, 1), (6, .iconst (-1), 1), (7, .aload_n 0, 1), (8, .invokevirtual 315, 3), (11, .iconst 1, 1), (12, .isub, 1), (13, .invokestatic 245, 3), (16, .ifCond .ne 6, 3), (19, .bipush (-2), 2), (21, .ireturn, 1), (22, .aload_n 0, 1), (23, .invokevirtual 439, 3), (26, .iload_n 1, 1), (27, .ifCond .ge 10, 3), (30, .aload_n 0, 1), (31, .getfield 424, 3), (34, .goto 9, 3), (37, .aload_n 0, 1), (38, .getfield 155, 3), (41, .iload_n 1, 1), (42, .iaload, 1), (43, .ireturn, 1)]
def zq_L225 : List (Nat × Instr × Nat) := [(0, .aload_n 0, 1), (1, .iconst 0, 1), (2, .invokevirtual 353, 3), (5, .aload_n 0, 1), (6, .iconst 0, 1), (7, .putfield 421, 3), (10, .aload_n 0, 1), (11, .lconst 0, 1), (12, .putfield 427, 3), (15, .aload_n 0, 1), (16, .iconst 0, 1), (17, .iconst 0, 1), (18, .iconst 0, 1), (19, .invokevirtual 436, 3), (22, .return_, 1)]
def zq_L226 : List (Nat × Instr × Nat) := [(0, .iload_n 1, 1), (1, .aload_n 0, 1), (2, .invokevirtual 315, 3), (5, .if_icmp .ne 8, 3), (8, .aload_n 0, 1), (9, .invokevirtual 430, 3), (12, .return_, 1), (13, .iconst 0, 1), (14, .istore 4, 2), (16, .iload 4, 2), (18, .aload_n 0, 1), (19, .invokevirtual 319, 3), (22, .if_icmp .ge 50, 3), (25, .iload_n 2, 1), (26, .iload 4, 2), (28, .ishr, 1), (29, .iconst 1, 1), (30, .iand, 1), (31, .ifCond .ne 35, 3), (34, .iload_n 3, 1), (35, .aload_n 0, 1), (36, .invokevirtual 433, 3), (39, .if_icmp .ge 27, 3), (42, .aload_n 0, 1), (43, .getfield 149, 3), (46, .iload_n 1, 1), (47, .iload 4, 2), (49, .iastore, 1), (50, .aload_n 0, 1), (51, .iload_n 1, 1), (52, .iconst 1, 1), (53, .iadd, 1), (54, .iload_n 2, 1), (55, .iconst 1, 1), (56, .iload 4, 2), (58, .ishl, 1), (59, .ior, 1), (60, .iload_n 3, 1), (61, .iconst 1, 1), (62, .iadd, 1), (63, .invokevirtual 436, 3), (66, .iinc 4 1, 3), (69, .goto (-53), 3), (72, .aload_n 0, 1), (73, .getfield 149, 3), (76, .iload_n 1, 1), (77, .iconst (-1), 1), (78, .iastore, 1), (79, .aload_n 0, 1), (80, .invokevirtual 433, 3), (83, .iload_n 3, 1), (84, .isub, 1), (85, .aload_n 0, 1), (86, .invokevirtual 315, 3), (89, .iload_n 1, 1), (90, .isub, 1), (91, .iconst 1, 1), (92, .isub, 1), (93, .if_icmp .gt 12, 3), (96, .aload_n 0, 1), (97, .iload_n 1, 1), (98, .iconst 1, 1), (99, .iadd, 1), (100, .iload_n 2, 1), (101, .iload_n 3, 1), (102, .invokevirtual 436, 3), (105, .return_, 1)]
def zq_L227 : List (Nat × Instr × Nat) := [(0, .aload_n 0, 1), (1, .invokevirtual 356, 3), (4, .istore_n 1, 1), (5, .aload_n 0, 1), (6, .getfield 158, 3), (9, .aload_n 0, 1), (10, .getfield 421, 3), (13, .iload_n 1, 1), (14, .iastore, 1), (15, .aload_n 0, 1), (16, .getfield 421, 3), (19, .ifCond .eq 11, 3), (22, .iload_n 1, 1), (23, .aload_n 0, 1), (24, .getfield 424, 3), (27, .if_icmp .le 34, 3), (30, .aload_n 0, 1), (31, .iload_n 1, 1), (32, .putfield 424, 3), (35, .iconst 0, 1), (36, .istore_n 2, 1), (37, .iload_n 2, 1), (38, .bipush 6, 2), (40, .if_icmp .ge 21, 3), (43, .aload_n 0, 1), (44, .getfield 155, 3), (47, .iload_n 2, 1), (48, .aload_n 0, 1), (49, .getfield 149, 3), (52, .iload_n 2, 1), (53, .iaload, 1), (54, .iastore, 1), (55, .iinc 2 1, 3), (58, .goto (-21), 3), (61, .aload_n 0, 1), (62, .dup, 1), (63, .getfield 427, 3), (66, .iload_n 1, 1), (67, .i2l, 1), (68, .ladd, 1), (69, .putfield 427, 3), (72, .aload_n 0, 1), (73, .dup, 1), (74, .getfield 421, 3), (77, .iconst 1, 1), (78, .iadd, 1), (79, .putfield 421, 3), (82, .return_, 1)]
def zq_L228 : List (Nat × Instr × Nat) := [(0, .aload_n 0, 1), (1, .invokevirtual 315, 3), (4, .aload_n 0, 1), (5, .invokevirtual 319, 3), (8, .if_icmp .ge 10, 3), (11, .aload_n 0, 1), (12, .invokevirtual 315, 3), (15, .goto 7, 3), (18, .aload_n 0, 1), (19, .invokevirtual 319, 3), (22, .ireturn, 1)]
def zq_L229 : List (Nat × Instr × Nat) := [(0, .aload_n 0, 1), (1, .iconst 0, 1), (2, .putfield 1, 3), (5, .aload_n 0, 1), (6, .invokevirtual 439, 3), (9, .aload_n 0, 1), (10, .getfield 427, 3), (13, .ldc2_w 442, 3), (16, .lmul, 1), (17, .aload_n 0, 1), (18, .getfield 421, 3), (21, .i2l, 1), (22, .ldiv, 1), (23, .l2i, 1), (24, .ireturn, 1)]
def zq_L230 : List (Nat × Instr × Nat) := [(0, .aload_n 0, 1), (1, .iconst 0, 1), (2, .putfield 1, 3), (5, .aload_n 0, 1), (6, .invokevirtual 439, 3), (9, .sipush 1000, 3), (12, .aload_n 0, 1), (13, .getfield 424, 3), (16, .imul, 1), (17, .aload_n 0, 1), (18, .getfield 427, 3), (21, .ldc2_w 442, 3), (24, .lmul, 1), (25, .aload_n 0, 1), (26, .getfield 421, 3), (29, .i2l, 1), (30, .ldiv, 1), (31, .l2i, 1), (32, .isub, 1), (33, .ireturn, 1)]
def zq_L231 : List (Nat × Instr × Nat) := [(0, .aload_n 0, 1), (1, .iconst 0, 1), (2, .putfield 1, 3), (5, .iload_n 1, 1), (6, .iconst 1, 1), (7, .iconst 5, 1), (8, .invokestatic 245, 3), (11, .ifCond .eq 12, 3), (14, .iload_n 2, 1), (15, .iconst 0, 1), (16, .iload_n 1, 1), (17, .invokestatic 245, 3), (20, .ifCond .ne 5, 3), (23, .iconst (-1), 1), (24, .ireturn, 1), (25, .aload_n 0, 1), (26, .invokevirtual 439, 3), (29, .iconst 0, 1), (30, .istore_n 3, 1), (31, .iload_n 3, 1), (32, .iconst 3, 1), (33, .aload_n 0, 1), (34, .getfield 421, 3), (37, .imul, 1), (38, .if_icmp .ge 36, 3), (41, .aload_n 0, 1), (42, .getfield 161, 3), (45, .iload_n 3, 1), (46, .aload_n 0, 1), (47, .aload_n 0, 1), (48, .getfield 158, 3), (51, .iload_n 3, 1), (52, .iconst 3, 1), (53, .idiv, 1), (54, .iaload, 1), (55, .aload_n 0, 1), (56, .getfield 109, 3), (59, .iconst 4, 1), (60, .iaload, 1), (61, .iload_n 3, 1), (62, .iconst 3, 1), (63, .irem, 1), (64, .invokevirtual 409, 3), (67, .iastore, 1), (68, .iinc 3 1, 3), (71, .goto (-40), 3), (74, .iconst 1, 1), (75, .istore_n 3, 1), (76, .iconst 0, 1), (77, .istore 4, 2), (79, .iload 4, 2), (81, .iload_n 1, 1), (82, .if_icmp .ge 13, 3), (85, .iconst 3, 1), (86, .iload_n 3, 1), (87, .imul, 1), (88, .istore_n 3, 1), (89, .iinc 4 1, 3), (92, .goto (-13), 3), (95, .iconst 0, 1), (96, .istore 4, 2), (98, .aload_n 0, 1), (99, .iconst 0, 1), (100, .iload_n 1, 1), (101, .invokevirtual 444, 3), (104, .lstore 5, 2), (106, .iconst 1, 1), (107, .istore 7, 2), (109, .iload 7, 2), (111, .iload_n 3, 1), (112, .if_icmp .ge 56, 3), (115, .aload_n 0, 1), (116, .iload 7, 2), (118, .iload_n 1, 1), (119, .invokestatic 448, 3), (122, .iload_n 1, 1), (123, .invokevirtual 444, 3), (126, .lstore 8, 2), (128, .lload 8, 2), (130, .lload 5, 2), (132, .lcmp, 1), (133, .ifCond .le 8, 3), (136, .iload 7, 2), (138, .goto 5, 3), (141, .iload 4, 2), (143, .istore 4, 2), (145, .lload 8, 2), (147, .lload 5, 2), (149, .lcmp, 1), (150, .ifCond .le 8, 3), (153, .lload 8, 2), (155, .goto 5, 3), (158, .lload 5, 2), (160, .lstore 5, 2), (162, .iinc 7 1, 3), (165, .goto (-56), 3), (168, .iload 4, 2), (170, .iload_n 1, 1), (171, .invokestatic 448, 3), (174, .istore 7, 2), (176, .iconst 1, 1), (177, .istore 8, 2), (179, .iload 8, 2), (181, .iload_n 2, 1), (182, .if_icmp .ge 15, 3), (185, .iload 7, 2), (187, .iconst 3, 1), (188, .idiv, 1), (189, .istore 7, 2), (191, .iinc 8 1, 3), (194, .goto (-15), 3), (197, .iload_n 2, 1), (198, .ifCond .ne 19, 3), (201, .lload 5, 2), (203, .ldc2_w 442, 3), (206, .lmul, 1), (207, .aload_n 0, 1), (208, .getfield 421, 3), (211, .i2l, 1), (212, .ldiv, 1), (213, .l2i, 1), (214, .goto 7, 3), (217, .iload 7, 2), (219, .iconst 3, 1), (220, .irem, 1), (221, .ireturn, 1)]
def zq_L232 : List (Nat × Instr × Nat) := [(0, .lconst 0, 1), (1, .lstore_n 3, 1), (2, .iconst 0, 1), (3, .istore 5, 2), (5, .iload 5, 2), (7, .aload_n 0, 1), (8, .getfield 421, 3), (11, .if_icmp .ge 84, 3), (14, .aload_n 0, 1), (15, .getfield 139, 3), (18, .iconst 1, 1), (19, .iaload, 1), (20, .istore 6, 2), (22, .iload_n 1, 1), (23, .istore 7, 2), (25, .iconst 0, 1), (26, .istore 8, 2), (28, .iload 8, 2), (30, .iload_n 2, 1), (31, .if_icmp .ge 52, 3), (34, .aload_n 0, 1), (35, .iload 6, 2), (37, .invokevirtual 403, 3), (40, .ifCond .eq 8, 3), (43, .iload 6, 2), (45, .goto 24, 3), (48, .aload_n 0, 1), (49, .iload 6, 2), (51, .aload_n 0, 1), (52, .getfield 161, 3), (55, .iconst 3, 1), (56, .iload 5, 2), (58, .imul, 1), (59, .iload 7, 2), (61, .iconst 3, 1), (62, .irem, 1), (63, .iadd, 1), (64, .iaload, 1), (65, .iadd, 1), (66, .invokevirtual 412, 3), (69, .istore 6, 2), (71, .iload 7, 2), (73, .iconst 3, 1), (74, .idiv, 1), (75, .istore 7, 2), (77, .iinc 8 1, 3), (80, .goto (-52), 3), (83, .lload_n 3, 1), (84, .iload 6, 2), (86, .i2l, 1), (87, .ladd, 1), (88, .lstore_n 3, 1), (89, .iinc 5 1, 3), (92, .goto (-87), 3), (95, .lload_n 3, 1), (96, .lreturn, 1)]
def zq_L233 : List (Nat × Instr × Nat) := [(0, .iconst 0, 1), (1, .istore_n 2, 1), (2, .iload_n 0, 1), (3, .istore_n 3, 1), (4, .iconst 0, 1), (5, .istore 4, 2), (7, .iload 4, 2), (9, .iload_n 1, 1), (10, .if_icmp .ge 21, 3), (13, .iconst 3, 1), (14, .iload_n 2, 1), (15, .imul, 1), (16, .iload_n 3, 1), (17, .iconst 3, 1), (18, .irem, 1), (19, .iadd, 1), (20, .istore_n 2, 1), (21, .iload_n 3, 1), (22, .iconst 3, 1), (23, .idiv, 1), (24, .istore_n 3, 1), (25, .iinc 4 1, 3), (28, .goto (-21), 3), (31, .iload_n 2, 1), (32, .ireturn, 1)]
def zq_L234 : List (Nat × Instr × Nat) := [(0, .aload_n 0, 1), (1, .iconst 0, 1), (2, .putfield 1, 3), (5, .aload_n 0, 1), (6, .iload_n 1, 1), (7, .invokevirtual 362, 3), (10, .ifCond .ne 6, 3), (13, .bipush (-2), 2), (15, .ireturn, 1), (16, .aload_n 0, 1), (17, .invokevirtual 460, 3), (20, .aload_n 0, 1), (21, .getfield 164, 3), (24, .iload_n 1, 1), (25, .iaload, 1), (26, .ireturn, 1)]
def zq_L235 : List (Nat × Instr × Nat) := [(0, .iconst 0, 1), (1, .istore_n 1, 1), (2, .iconst 0, 1), (3, .istore_n 2, 1), (4, .iload_n 2, 1), (5, .aload_n 0, 1), (6, .invokevirtual 315, 3), (9, .if_icmp .ge 30, 3), (12, .iload_n 1, 1), (13, .aload_n 0, 1), (14, .getfield 139, 3), (17, .iconst 4, 1), (18, .iload_n 2, 1), (19, .iadd, 1), (20, .iaload, 1), (21, .ifCond .lt 9, 3), (24, .iconst 1, 1), (25, .iload_n 2, 1), (26, .ishl, 1), (27, .goto 4, 3), (30, .iconst 0, 1), (31, .ior, 1), (32, .istore_n 1, 1), (33, .iinc 2 1, 3), (36, .goto (-32), 3), (39, .iconst 0, 1), (40, .istore_n 2, 1), (41, .iload_n 2, 1), (42, .bipush 6, 2), (44, .if_icmp .ge 16, 3), (47, .aload_n 0, 1), (48, .getfield 164, 3), (51, .iload_n 2, 1), (52, .iconst (-1), 1), (53, .iastore, 1), (54, .iinc 2 1, 3), (57, .goto (-16), 3), (60, .iload_n 1, 1), (61, .ifCond .le 75, 3), (64, .aload_n 0, 1), (65, .iload_n 1, 1), (66, .invokevirtual 454, 3), (69, .iconst 0, 1), (70, .istore_n 2, 1), (71, .iconst 0, 1), (72, .istore_n 3, 1), (73, .iload_n 3, 1), (74, .aload_n 0, 1), (75, .invokevirtual 319, 3), (78, .if_icmp .ge 49, 3), (81, .aload_n 0, 1), (82, .getfield 167, 3), (85, .iload_n 3, 1), (86, .iaload, 1), (87, .ifCond .lt 34, 3), (90, .aload_n 0, 1), (91, .iload_n 3, 1), (92, .invokevirtual 457, 3), (95, .ifCond .eq 26, 3), (98, .aload_n 0, 1), (99, .getfield 164, 3), (102, .iload_n 3, 1), (103, .aload_n 0, 1), (104, .getfield 167, 3), (107, .iload_n 3, 1), (108, .iaload, 1), (109, .iastore, 1), (110, .iload_n 2, 1), (111, .iconst 1, 1), (112, .aload_n 0, 1), (113, .getfield 167, 3), (116, .iload_n 3, 1), (117, .iaload, 1), (118, .ishl, 1), (119, .ior, 1), (120, .istore_n 2, 1), (121, .iinc 3 1, 3), (124, .goto (-51), 3), (127, .iload_n 1, 1), (128, .iload_n 2, 1), (129, .iconst (-1), 1), (130, .ixor, 1), (131, .iand, 1), (132, .istore_n 1, 1), (133, .goto (-73), 3), (136, .return_, 1)]
def zq_L236 : List (Nat × Instr × Nat) := [(0, .iconst 0, 1), (1, .istore_n 2, 1), (2, .iload_n 2, 1), (3, .aload_n 0, 1), (4, .invokevirtual 319, 3), (7, .if_icmp .ge 123, 3), (10, .aload_n 0, 1), (11, .iconst 0, 1), (12, .iload_n 2, 1), (13, .invokevirtual 365, 3), (16, .istore_n 3, 1), (17, .aload_n 0, 1), (18, .getfield 167, 3), (21, .iload_n 2, 1), (22, .iconst (-1), 1), (23, .iastore, 1), (24, .iconst 0, 1), (25, .istore 4, 2), (27, .iload 4, 2), (29, .aload_n 0, 1), (30, .invokevirtual 315, 3), (33, .if_icmp .ge 91, 3), (36, .iload_n 3, 1), (37, .ifCond .lt 87, 3), (40, .iload_n 1, 1), (41, .iload_n 3, 1), (42, .ishr, 1), (43, .iconst 1, 1), (44, .iand, 1), (45, .iconst 1, 1), (46, .if_icmp .ne 78, 3), (49, .iload_n 1, 1), (50, .iload 4, 2), (52, .ishr, 1), (53, .iconst 1, 1), (54, .iand, 1), (55, .iconst 1, 1), (56, .if_icmp .ne 37, 3), (59, .aload_n 0, 1), (60, .getfield 167, 3), (63, .iload_n 2, 1), (64, .iaload, 1), (65, .ifCond .lt 24, 3), (68, .aload_n 0, 1), (69, .iload_n 2, 1), (70, .iload 4, 2), (72, .invokevirtual 451, 3), (75, .aload_n 0, 1), (76, .iload_n 2, 1), (77, .aload_n 0, 1), (78, .getfield 167, 3), (81, .iload_n 2, 1), (82, .iaload, 1), (83, .invokevirtual 451, 3), (86, .if_icmp .le 7, 3), (89, .iconst 1, 1), (90, .goto 4, 3), (93, .iconst 0, 1), (94, .istore 5, 2), (96, .aload_n 0, 1), (97, .getfield 167, 3), (100, .iload_n 2, 1), (101, .iload 5, 2), (103, .ifCond .eq 8, 3), (106, .iload 4, 2), (108, .goto 9, 3), (111, .aload_n 0, 1), (112, .getfield 167, 3), (115, .iload_n 2, 1), (116, .iaload, 1), (117, .iastore, 1), (118, .iinc 4 1, 3), (121, .goto (-94), 3), (124, .iinc 2 1, 3), (127, .goto (-125), 3), (130, .return_, 1)]
def zq_L237 : List (Nat × Instr × Nat) := [(0, .aload_n 0, 1), (1, .iload_n 1, 1), (2, .iload_n 2, 1), (3, .invokevirtual 338, 3), (6, .aload_n 0, 1), (7, .getfield 109, 3), (10, .bipush 8, 2), (12, .iaload, 1), (13, .ifCond .ge 12, 3), (16, .aload_n 0, 1), (17, .iload_n 2, 1), (18, .iconst 1, 1), (19, .invokevirtual 335, 3), (22, .goto 14, 3), (25, .aload_n 0, 1), (26, .aload_n 0, 1), (27, .getfield 109, 3), (30, .bipush 8, 2), (32, .iaload, 1), (33, .invokevirtual 341, 3), (36, .ireturn, 1)]
def zq_L238 : List (Nat × Instr × Nat) := [(0, .iload_n 1, 1), (1, .istore_n 2, 1), (2, .iconst 0, 1), (3, .istore_n 3, 1), (4, .iload_n 3, 1), (5, .bipush 6, 2), (7, .if_icmp .ge 30, 3), (10, .aload_n 0, 1), (11, .getfield 139, 3), (14, .iconst 4, 1), (15, .aload_n 0, 1), (16, .getfield 167, 3), (19, .iload_n 2, 1), (20, .iaload, 1), (21, .iadd, 1), (22, .iaload, 1), (23, .istore_n 2, 1), (24, .iload_n 2, 1), (25, .iload_n 1, 1), (26, .if_icmp .ne 5, 3), (29, .iconst 1, 1), (30, .ireturn, 1), (31, .iinc 3 1, 3), (34, .goto (-30), 3), (37, .iconst 0, 1), (38, .ireturn, 1)]
def zq_L239 : List (Nat × Instr × Nat) := [(0, .aload_n 0, 1), (1, .iconst 0, 1), (2, .putfield 1, 3), (5, .aload_n 0, 1), (6, .invokevirtual 460, 3), (9, .iconst 0, 1), (10, .istore_n 1, 1), (11, .iconst 0, 1), (12, .istore_n 2, 1), (13, .iload_n 2, 1), (14, .aload_n 0, 1), (15, .invokevirtual 319, 3), (18, .if_icmp .ge 34, 3), (21, .iload_n 1, 1), (22, .aload_n 0, 1), (23, .getfield 164, 3), (26, .iload_n 2, 1), (27, .iaload, 1), (28, .aload_n 0, 1), (29, .iconst 0, 1), (30, .iload_n 2, 1), (31, .invokevirtual 365, 3), (34, .if_icmp .eq 9, 3), (37, .iconst 1, 1), (38, .iload_n 2, 1), (39, .ishl, 1), (40, .goto 4, 3), (43, .iconst 0, 1), (44, .ior, 1), (45, .istore_n 1, 1), (46, .iinc 2 1, 3), (49, .goto (-36), 3), (52, .iload_n 1, 1), (53, .ireturn, 1)]
def zq_L240 : List (Nat × Instr × Nat) := [(0, .aload_n 0, 1), (1, .iconst 0, 1), (2, .putfield 1, 3), (5, .aload_n 0, 1), (6, .iload_n 1, 1), (7, .invokevirtual 469, 3), (10, .ifCond .ne 5, 3), (13, .iconst (-1), 1), (14, .ireturn, 1), (15, .aload_n 0, 1), (16, .invokevirtual 350, 3), (19, .aload_n 0, 1), (20, .iload_n 1, 1), (21, .invokevirtual 472, 3), (24, .ireturn, 1)]
def zq_L241 : List (Nat × Instr × Nat) := [(0, .iload_n 1, 1), (1, .iconst 1, 1), (2, .iconst 1, 1), (3, .aload_n 0, 1), (4, .invokevirtual 319, 3), (7, .ishl, 1), (8, .iconst 1, 1), (9, .isub, 1), (10, .invokestatic 245, 3), (13, .istore_n 2, 1), (14, .iconst 0, 1), (15, .istore_n 3, 1), (16, .iload_n 3, 1), (17, .aload_n 0, 1), (18, .invokevirtual 319, 3), (21, .if_icmp .ge 36, 3), (24, .iload_n 2, 1), (25, .ifCond .eq 32, 3), (28, .iload_n 1, 1), (29, .iload_n 3, 1), (30, .ishr, 1), (31, .iconst 1, 1), (32, .iand, 1), (33, .ifCond .eq 12, 3), (36, .aload_n 0, 1), (37, .iconst 0, 1), (38, .iload_n 3, 1), (39, .invokevirtual 365, 3), (42, .ifCond .lt 7, 3), (45, .iconst 1, 1), (46, .goto 4, 3), (49, .iconst 0, 1), (50, .istore_n 2, 1), (51, .iinc 3 1, 3), (54, .goto (-38), 3), (57, .iload_n 2, 1), (58, .ireturn, 1)]
def zq_L242 : List (Nat × Instr × Nat) := [(0, .iconst 0, 1), (1, .istore_n 2, 1), (2, .iconst 0, 1), (3, .istore_n 3, 1), (4, .iload_n 3, 1), (5, .aload_n 0, 1), (6, .invokevirtual 319, 3), (9, .if_icmp .ge 33, 3), (12, .iload_n 2, 1), (13, .iload_n 1, 1), (14, .iload_n 3, 1), (15, .ishr, 1), (16, .iconst 1, 1), (17, .iand, 1), (18, .iconst 1, 1), (19, .if_icmp .ne 14, 3), (22, .iconst 1, 1), (23, .aload_n 0, 1), (24, .iconst 0, 1), (25, .iload_n 3, 1), (26, .invokevirtual 365, 3), (29, .ishl, 1), (30, .goto 4, 3), (33, .iconst 0, 1), (34, .ior, 1), (35, .istore_n 2, 1), (36, .iinc 3 1, 3), (39, .goto (-35), 3), (42, .aload_n 0, 1), (43, .iconst 0, 1), (44, .putfield 463, 3), (47, .aload_n 0, 1), (48, .iload_n 1, 1), (49, .iload_n 2, 1), (50, .iconst 0, 1), (51, .invokevirtual 466, 3), (54, .aload_n 0, 1), (55, .getfield 463, 3), (58, .ireturn, 1)]
def zq_L243 : List (Nat × Instr × Nat) := [(0, .iload_n 1, 1), (1, .ifCond .ne 24, 3), (4, .aload_n 0, 1), (5, .iload_n 3, 1), (6, .aload_n 0, 1), (7, .getfield 463, 3), (10, .if_icmp .le 7, 3), (13, .iload_n 3, 1), (14, .goto 7, 3), (17, .aload_n 0, 1), (18, .getfield 463, 3), (21, .putfield 463, 3), (24, .return_, 1), (25, .iconst 0, 1), (26, .istore 4, 2), (28, .iload_n 1, 1), (29, .iload 4, 2), (31, .ishr, 1), (32, .iconst 1, 1), (33, .iand, 1), (34, .ifCond .ne 9, 3), (37, .iinc 4 1, 3), (40, .goto (-12), 3), (43, .iconst 0, 1), (44, .istore 5, 2), (46, .iload 5, 2), (48, .aload_n 0, 1), (49, .invokevirtual 315, 3), (52, .if_icmp .ge 62, 3), (55, .iload_n 2, 1), (56, .iload 5, 2), (58, .ishr, 1), (59, .iconst 1, 1), (60, .iand, 1), (61, .iconst 1, 1), (62, .if_icmp .ne 46, 3), (65, .aload_n 0, 1), (66, .iload_n 1, 1), (67, .iconst 1, 1), (68, .iload 4, 2), (70, .ishl, 1), (71, .iconst (-1), 1), (72, .ixor, 1), (73, .iand, 1), (74, .iload_n 2, 1), (75, .iconst 1, 1), (76, .iload 5, 2), (78, .ishl, 1), (79, .iconst (-1), 1), (80, .ixor, 1), (81, .iand, 1), (82, .iload_n 3, 1), (83, .aload_n 0, 1), (84, .getfield 146, 3), (87, .bipush 6, 2), (89, .iload 4, 2), (91, .imul, 1), (92, .iload 5, 2), (94, .iadd, 1), (95, .iaload, 1), (96, .aload_n 0, 1), (97, .iload 5, 2), (99, .iconst 1, 1), (100, .invokevirtual 335, 3), (103, .imul, 1), (104, .iadd, 1), (105, .invokevirtual 466, 3), (108, .iinc 5 1, 3), (111, .goto (-65), 3), (114, .return_, 1)]
def zq_L244 : List (Nat × Instr × Nat) := [(0, .aload_n 0, 1), (1, .iconst 0, 1), (2, .putfield 1, 3), (5, .aload_n 0, 1), (6, .iload_n 1, 1), (7, .invokevirtual 469, 3), (10, .ifCond .eq 19, 3), (13, .aload_n 0, 1), (14, .iload_n 2, 1), (15, .invokevirtual 362, 3), (18, .ifCond .eq 11, 3), (21, .iload_n 1, 1), (22, .iload_n 2, 1), (23, .ishr, 1), (24, .iconst 1, 1), (25, .iand, 1), (26, .ifCond .ne 5, 3), (29, .iconst (-1), 1), (30, .ireturn, 1), (31, .aload_n 0, 1), (32, .invokevirtual 350, 3), (35, .lconst 0, 1), (36, .lstore_n 3, 1), (37, .iload_n 1, 1), (38, .invokestatic 475, 3), (41, .istore 5, 2), (43, .iconst 0, 1), (44, .istore 6, 2), (46, .iload 6, 2), (48, .iconst 1, 1), (49, .aload_n 0, 1), (50, .invokevirtual 319, 3), (53, .ishl, 1), (54, .if_icmp .ge 71, 3), (57, .iload 6, 2), (59, .iload_n 1, 1), (60, .iconst (-1), 1), (61, .ixor, 1), (62, .iand, 1), (63, .ifCond .ne 56, 3), (66, .iload 6, 2), (68, .iload_n 2, 1), (69, .ishr, 1), (70, .iconst 1, 1), (71, .iand, 1), (72, .ifCond .ne 47, 3), (75, .lload_n 3, 1), (76, .iload 6, 2), (78, .invokestatic 475, 3), (81, .invokestatic 478, 3), (84, .iload 5, 2), (86, .iconst 1, 1), (87, .isub, 1), (88, .iload 6, 2), (90, .invokestatic 475, 3), (93, .isub, 1), (94, .invokestatic 478, 3), (97, .lmul, 1), (98, .aload_n 0, 1), (99, .iload 6, 2), (101, .iconst 1, 1), (102, .iload_n 2, 1), (103, .ishl, 1), (104, .ior, 1), (105, .invokevirtual 472, 3), (108, .aload_n 0, 1), (109, .iload 6, 2), (111, .invokevirtual 472, 3), (114, .isub, 1), (115, .i2l, 1), (116, .lmul, 1), (117, .ladd, 1), (118, .lstore_n 3, 1), (119, .iinc 6 1, 3), (122, .goto (-76), 3), (125, .lload_n 3, 1), (126, .ldc2_w 442, 3), (129, .lmul, 1), (130, .iload 5, 2), (132, .invokestatic 478, 3), (135, .ldiv, 1), (136, .l2i, 1), (137, .ireturn, 1)]
def zq_L245 : List (Nat × Instr × Nat) := [(0, .iconst 0, 1), (1, .istore_n 1, 1), (2, .iconst 0, 1), (3, .istore_n 2, 1), (4, .iload_n 2, 1), (5, .bipush 30, 2), (7, .if_icmp .ge 17, 3), (10, .iload_n 1, 1), (11, .iload_n 0, 1), (12, .iload_n 2, 1), (13, .ishr, 1), (14, .iconst 1, 1), (15, .iand, 1), (16, .iadd, 1), (17, .istore_n 1, 1), (18, .iinc 2 1, 3), (21, .goto (-17), 3), (24, .iload_n 1, 1), (25, .ireturn, 1)]
def zq_L246 : List (Nat × Instr × Nat) := [(0, .lconst 1, 1), (1, .lstore_n 1, 1), (2, .iconst 2, 1), (3, .istore_n 3, 1), (4, .iload_n 3, 1), (5, .iload_n 0, 1), (6, .if_icmp .gt 14, 3), (9, .lload_n 1, 1), (10, .iload_n 3, 1), (11, .i2l, 1), (12, .lmul, 1), (13, .lstore_n 1, 1), (14, .iinc 3 1, 3), (17, .goto (-13), 3), (20, .lload_n 1, 1), (21, .lreturn, 1)]
def zq_L247 : List (Nat × Instr × Nat) := [(0, .aload_n 0, 1), (1, .iconst 0, 1), (2, .putfield 1, 3), (5, .aload_n 0, 1), (6, .iload_n 1, 1), (7, .invokevirtual 362, 3), (10, .ifCond .eq 23, 3), (13, .aload_n 0, 1), (14, .iload_n 2, 1), (15, .invokevirtual 359, 3), (18, .ifCond .eq 15, 3), (21, .aload_n 0, 1), (22, .getfield 139, 3), (25, .bipush 22, 2), (27, .iaload, 1), (28, .bipush 8, 2), (30, .if_icmp .ne 5, 3), (33, .iconst 0, 1), (34, .ireturn, 1), (35, .aload_n 0, 1), (36, .getfield 139, 3), (39, .bipush 23, 2), (41, .iconst 2, 1), (42, .aload_n 0, 1), (43, .getfield 139, 3), (46, .bipush 22, 2), (48, .iaload, 1), (49, .imul, 1), (50, .iadd, 1), (51, .iload_n 1, 1), (52, .iastore, 1), (53, .aload_n 0, 1), (54, .getfield 139, 3), (57, .bipush 23, 2), (59, .iconst 2, 1), (60, .aload_n 0, 1), (61, .getfield 139, 3), (64, .bipush 22, 2), (66, .iaload, 1), (67, .imul, 1), (68, .iadd, 1), (69, .iconst 1, 1), (70, .iadd, 1), (71, .iload_n 2, 1), (72, .iastore, 1), (73, .aload_n 0, 1), (74, .getfield 139, 3), (77, .bipush 22, 2), (79, .dup2, 1), (80, .iaload, 1), (81, .iconst 1, 1), (82, .iadd, 1), (83, .iastore, 1), (84, .iconst 1, 1), (85, .ireturn, 1)]
def zq_L248 : List (Nat × Instr × Nat) := [(0, .aload_n 0, 1), (1, .iconst 0, 1), (2, .putfield 1, 3), (5, .aload_n 0, 1), (6, .iload_n 1, 1), (7, .invokevirtual 362, 3), (10, .ifCond .eq 42, 3), (13, .iload_n 2, 1), (14, .iconst 1, 1), (15, .bipush 9, 2), (17, .invokestatic 245, 3), (20, .ifCond .eq 32, 3), (23, .aload_n 0, 1), (24, .iload_n 1, 1), (25, .iconst 0, 1), (26, .invokevirtual 486, 3), (29, .ifCond .le 23, 3), (32, .aload_n 0, 1), (33, .iload_n 2, 1), (34, .aload_n 0, 1), (35, .iload_n 1, 1), (36, .iconst 0, 1), (37, .invokevirtual 486, 3), (40, .aload_n 0, 1), (41, .iload_n 1, 1), (42, .iload_n 2, 1), (43, .invokevirtual 486, 3), (46, .invokevirtual 489, 3), (49, .goto 4, 3), (52, .iconst (-1), 1), (53, .ireturn, 1)]
def zq_L249 : List (Nat × Instr × Nat) := [(0, .iconst 0, 1), (1, .istore_n 3, 1), (2, .iconst 0, 1), (3, .istore 4, 2), (5, .iload 4, 2), (7, .aload_n 0, 1), (8, .getfield 139, 3), (11, .bipush 22, 2), (13, .iaload, 1), (14, .if_icmp .ge 56, 3), (17, .iload_n 3, 1), (18, .aload_n 0, 1), (19, .getfield 139, 3), (22, .bipush 23, 2), (24, .iconst 2, 1), (25, .iload 4, 2), (27, .imul, 1), (28, .iadd, 1), (29, .iaload, 1), (30, .iload_n 1, 1), (31, .if_icmp .ne 30, 3), (34, .aload_n 0, 1), (35, .aload_n 0, 1), (36, .getfield 139, 3), (39, .bipush 23, 2), (41, .iconst 2, 1), (42, .iload 4, 2), (44, .imul, 1), (45, .iadd, 1), (46, .iconst 1, 1), (47, .iadd, 1), (48, .iaload, 1), (49, .iconst 1, 1), (50, .invokevirtual 335, 3), (53, .iload_n 2, 1), (54, .if_icmp .lt 7, 3), (57, .iconst 1, 1), (58, .goto 4, 3), (61, .iconst 0, 1), (62, .iadd, 1), (63, .istore_n 3, 1), (64, .iinc 4 1, 3), (67, .goto (-62), 3), (70, .iload_n 3, 1), (71, .ireturn, 1)]
def zq_L250 : List (Nat × Instr × Nat) := [(0, .iconst 0, 1), (1, .istore 4, 2), (3, .iconst 0, 1), (4, .istore 5, 2), (6, .iload 5, 2), (8, .aload_n 0, 1), (9, .invokevirtual 433, 3), (12, .if_icmp .ge 30, 3), (15, .iload 4, 2), (17, .aload_n 0, 1), (18, .iload 5, 2), (20, .iconst 1, 1), (21, .invokevirtual 335, 3), (24, .iload_n 1, 1), (25, .if_icmp .lt 7, 3), (28, .iconst 1, 1), (29, .goto 4, 3), (32, .iconst 0, 1), (33, .iadd, 1), (34, .istore 4, 2), (36, .iinc 5 1, 3), (39, .goto (-33), 3), (42, .lconst 0, 1), (43, .lstore 5, 2), (45, .lconst 1, 1), (46, .lstore 7, 2), (48, .iconst 0, 1), (49, .istore 9, 2), (51, .iload 9, 2), (53, .iload_n 2, 1), (54, .if_icmp .ge 19, 3), (57, .lload 7, 2), (59, .aload_n 0, 1), (60, .invokevirtual 319, 3), (63, .i2l, 1), (64, .lmul, 1), (65, .lstore 7, 2), (67, .iinc 9 1, 3), (70, .goto (-19), 3), (73, .iload_n 3, 1), (74, .istore 9, 2), (76, .iload 9, 2), (78, .iload_n 2, 1), (79, .if_icmp .gt 91, 3), (82, .lconst 1, 1), (83, .lstore 10, 2), (85, .iconst 0, 1), (86, .istore 12, 2), (88, .iload 12, 2), (90, .iload_n 2, 1), (91, .if_icmp .ge 34, 3), (94, .lload 10, 2), (96, .iload 12, 2), (98, .iload 9, 2), (100, .if_icmp .ge 8, 3), (103, .iload 4, 2), (105, .goto 10, 3), (108, .aload_n 0, 1), (109, .invokevirtual 319, 3), (112, .iload 4, 2), (114, .isub, 1), (115, .i2l, 1), (116, .lmul, 1), (117, .lstore 10, 2), (119, .iinc 12 1, 3), (122, .goto (-34), 3), (125, .iconst 0, 1), (126, .istore 12, 2), (128, .iload 12, 2), (130, .iload 9, 2), (132, .if_icmp .ge 25, 3), (135, .lload 10, 2), (137, .iload_n 2, 1), (138, .iload 12, 2), (140, .isub, 1), (141, .i2l, 1), (142, .lmul, 1), (143, .iload 12, 2), (145, .iconst 1, 1), (146, .iadd, 1), (147, .i2l, 1), (148, .ldiv, 1), (149, .lstore 10, 2), (151, .iinc 12 1, 3), (154, .goto (-26), 3), (157, .lload 5, 2), (159, .lload 10, 2), (161, .ladd, 1), (162, .lstore 5, 2), (164, .iinc 9 1, 3), (167, .goto (-91), 3), (170, .lload 5, 2), (172, .lload 7, 2), (174, .invokestatic 482, 3), (177, .ireturn, 1)]
def zq_L251 : List (Nat × Instr × Nat) := [(0, .lload_n 0, 1), (1, .lload_n 2, 1), (2, .ldiv, 1), (3, .l2i, 1), (4, .istore 4, 2), (6, .lload_n 0, 1), (7, .lload_n 2, 1), (8, .lrem, 1), (9, .lstore 5, 2), (11, .iconst 0, 1), (12, .istore 7, 2), (14, .iload 7, 2), (16, .bipush 6, 2), (18, .if_icmp .ge 36, 3), (21, .lload 5, 2), (23, .ldc2_w 196, 3), (26, .lmul, 1), (27, .lstore 5, 2), (29, .bipush 10, 2), (31, .iload 4, 2), (33, .imul, 1), (34, .lload 5, 2), (36, .lload_n 2, 1), (37, .ldiv, 1), (38, .l2i, 1), (39, .iadd, 1), (40, .istore 4, 2), (42, .lload 5, 2), (44, .lload_n 2, 1), (45, .lrem, 1), (46, .lstore 5, 2), (48, .iinc 7 1, 3), (51, .goto (-37), 3), (54, .iload 4, 2), (56, .ireturn, 1)]
def zq_L252 : List (Nat × Instr × Nat) := [(0, .aload_n 0, 1), (1, .iconst 0, 1), (2, .putfield 1, 3), (5, .aload_n 0, 1), (6, .iload_n 1, 1), (7, .invokevirtual 362, 3), (10, .ifCond .eq 33, 3), (13, .iload_n 2, 1), (14, .iconst 1, 1), (15, .bipush 9, 2), (17, .invokestatic 245, 3), (20, .ifCond .eq 23, 3), (23, .iload_n 3, 1), (24, .iconst 1, 1), (25, .ldc_w 492, 3), (28, .invokestatic 245, 3), (31, .ifCond .eq 12, 3), (34, .aload_n 0, 1), (35, .iload_n 1, 1), (36, .iconst 0, 1), (37, .invokevirtual 486, 3), (40, .ifCond .ne 5, 3), (43, .iconst (-1), 1), (44, .ireturn, 1), (45, .iconst 0, 1), (46, .istore 4, 2), (48, .iload 4, 2), (50, .bipush 8, 2), (52, .if_icmp .gt 39, 3), (55, .aload_n 0, 1), (56, .iload_n 2, 1), (57, .aload_n 0, 1), (58, .iload_n 1, 1), (59, .iconst 0, 1), (60, .invokevirtual 486, 3), (63, .iload 4, 2), (65, .iadd, 1), (66, .aload_n 0, 1), (67, .iload_n 1, 1), (68, .iload_n 2, 1), (69, .invokevirtual 486, 3), (72, .iload 4, 2), (74, .iadd, 1), (75, .invokevirtual 489, 3), (78, .iload_n 3, 1), (79, .if_icmp .ge 6, 3), (82, .iload 4, 2), (84, .ireturn, 1), (85, .iinc 4 1, 3), (88, .goto (-40), 3), (91, .iconst (-1), 1), (92, .ireturn, 1)]
def zq_L253 : List (Nat × Instr × Nat) := [(0, .aload_n 0, 1), (1, .iconst 0, 1), (2, .putfield 1, 3), (5, .iload_n 1, 1), (6, .iconst 0, 1), (7, .aload_n 0, 1), (8, .invokevirtual 371, 3), (11, .invokestatic 245, 3), (14, .ifCond .eq 14, 3), (17, .aload_n 0, 1), (18, .getfield 139, 3), (21, .bipush 16, 2), (23, .iaload, 1), (24, .iconst 5, 1), (25, .if_icmp .ne 5, 3), (28, .iconst 0, 1), (29, .ireturn, 1), (30, .aload_n 0, 1), (31, .getfield 139, 3), (34, .bipush 17, 2), (36, .aload_n 0, 1), (37, .getfield 139, 3), (40, .bipush 16, 2), (42, .iaload, 1), (43, .iadd, 1), (44, .iload_n 1, 1), (45, .iastore, 1), (46, .aload_n 0, 1), (47, .getfield 139, 3), (50, .bipush 16, 2), (52, .dup2, 1), (53, .iaload, 1), (54, .iconst 1, 1), (55, .iadd, 1), (56, .iastore, 1), (57, .iconst 1, 1), (58, .ireturn, 1)]
def zq_L254 : List (Nat × Instr × Nat) := [(0, .aload_n 0, 1), (1, .iconst 0, 1), (2, .putfield 1, 3), (5, .iload_n 1, 1), (6, .iconst (-1), 1), (7, .aload_n 0, 1), (8, .getfield 139, 3), (11, .bipush 16, 2), (13, .iaload, 1), (14, .iconst 1, 1), (15, .isub, 1), (16, .invokestatic 245, 3), (19, .ifCond .ne 6, 3), (22, .bipush (-2), 2), (24, .ireturn, 1), (25, .aload_n 0, 1), (26, .invokevirtual 502, 3), (29, .aload_n 0, 1), (30, .iconst 0, 1), (31, .putfield 493, 3), (34, .aload_n 0, 1), (35, .iconst 0, 1), (36, .aload_n 0, 1), (37, .getfield 139, 3), (40, .iconst 1, 1), (41, .iaload, 1), (42, .iconst 0, 1), (43, .invokevirtual 499, 3), (46, .iload_n 1, 1), (47, .ifCond .lt 10, 3), (50, .aload_n 0, 1), (51, .getfield 493, 3), (54, .ifCond .ne 17, 3), (57, .iload_n 1, 1), (58, .ifCond .ge 10, 3), (61, .aload_n 0, 1), (62, .getfield 493, 3), (65, .goto 5, 3), (68, .bipush (-2), 2), (70, .ireturn, 1), (71, .aload_n 0, 1), (72, .getfield 496, 3), (75, .istore_n 2, 1), (76, .aload_n 0, 1), (77, .getfield 139, 3), (80, .bipush 16, 2), (82, .iaload, 1), (83, .iconst 1, 1), (84, .isub, 1), (85, .istore_n 3, 1), (86, .iload_n 3, 1), (87, .iload_n 1, 1), (88, .if_icmp .le 13, 3), (91, .iload_n 2, 1), (92, .iconst 3, 1), (93, .idiv, 1), (94, .istore_n 2, 1), (95, .iinc 3 (-1), 3), (98, .goto (-12), 3), (101, .iload_n 2, 1), (102, .iconst 3, 1), (103, .irem, 1), (104, .ireturn, 1)]
def zq_L255 : List (Nat × Instr × Nat) := [(0, .aload_n 0, 1), (1, .iconst 0, 1), (2, .invokevirtual 368, 3), (5, .istore_n 1, 1), (6, .iconst 0, 1), (7, .istore_n 2, 1), (8, .iload_n 2, 1), (9, .iconst 3, 1), (10, .if_icmp .ge 27, 3), (13, .aload_n 0, 1), (14, .getfield 161, 3), (17, .iload_n 2, 1), (18, .aload_n 0, 1), (19, .iload_n 1, 1), (20, .aload_n 0, 1), (21, .getfield 109, 3), (24, .iconst 4, 1), (25, .iaload, 1), (26, .iload_n 2, 1), (27, .invokevirtual 409, 3), (30, .iastore, 1), (31, .iinc 2 1, 3), (34, .goto (-26), 3), (37, .return_, 1)]
def zq_L256 : List (Nat × Instr × Nat) := [(0, .iload_n 1, 1), (1, .aload_n 0, 1), (2, .getfield 139, 3), (5, .bipush 16, 2), (7, .iaload, 1), (8, .if_icmp .ne 33, 3), (11, .aload_n 0, 1), (12, .aload_n 0, 1), (13, .getfield 493, 3), (16, .ifCond .ne 7, 3), (19, .iload_n 3, 1), (20, .goto 7, 3), (23, .aload_n 0, 1), (24, .getfield 496, 3), (27, .putfield 496, 3), (30, .aload_n 0, 1), (31, .dup, 1), (32, .getfield 493, 3), (35, .iconst 1, 1), (36, .iadd, 1), (37, .putfield 493, 3), (40, .return_, 1), (41, .iconst 0, 1), (42, .istore 4, 2), (44, .iload 4, 2), (46, .iconst 3, 1), (47, .if_icmp .ge 65, 3), (50, .aload_n 0, 1), (51, .iload_n 2, 1), (52, .invokevirtual 403, 3), (55, .ifCond .eq 7, 3), (58, .iload_n 2, 1), (59, .goto 16, 3), (62, .aload_n 0, 1), (63, .iload_n 2, 1), (64, .aload_n 0, 1), (65, .getfield 161, 3), (68, .iload 4, 2), (70, .iaload, 1), (71, .iadd, 1), (72, .invokevirtual 412, 3), (75, .istore 5, 2), (77, .iload 5, 2), (79, .aload_n 0, 1), (80, .getfield 139, 3), (83, .bipush 17, 2), (85, .iload_n 1, 1), (86, .iadd, 1), (87, .iaload, 1), (88, .if_icmp .ne 18, 3), (91, .aload_n 0, 1), (92, .iload_n 1, 1), (93, .iconst 1, 1), (94, .iadd, 1), (95, .iload 5, 2), (97, .iconst 3, 1), (98, .iload_n 3, 1), (99, .imul, 1), (100, .iload 4, 2), (102, .iadd, 1), (103, .invokevirtual 499, 3), (106, .iinc 4 1, 3), (109, .goto (-65), 3), (112, .return_, 1)]
def zq_L257 : List (Nat × Instr × Nat) := [(0, .aload_n 0, 1), (1, .iconst 0, 1), (2, .putfield 1, 3), (5, .iload_n 1, 1), (6, .iconst 0, 1), (7, .iconst 1, 1), (8, .invokestatic 245, 3), (11, .ifCond .ne 6, 3), (14, .bipush (-2), 2), (16, .ireturn, 1), (17, .aload_n 0, 1), (18, .invokevirtual 502, 3), (21, .iconst 0, 1), (22, .istore_n 2, 1), (23, .iload_n 2, 1), (24, .aload_n 0, 1), (25, .invokevirtual 371, 3), (28, .if_icmp .gt 26, 3), (31, .aload_n 0, 1), (32, .getfield 170, 3), (35, .iload_n 2, 1), (36, .iload_n 2, 1), (37, .ifCond .ne 7, 3), (40, .iconst 0, 1), (41, .goto 6, 3), (44, .sipush 1000, 3), (47, .iastore, 1), (48, .iinc 2 1, 3), (51, .goto (-28), 3), (54, .iconst 1, 1), (55, .istore_n 2, 1), (56, .iload_n 2, 1), (57, .bipush 60, 2), (59, .if_icmp .gt 92, 3), (62, .iconst 0, 1), (63, .istore_n 3, 1), (64, .iload_n 3, 1), (65, .aload_n 0, 1), (66, .invokevirtual 371, 3), (69, .if_icmp .gt 76, 3), (72, .iload_n 3, 1), (73, .ifCond .ne 7, 3), (76, .iconst 0, 1), (77, .goto 33, 3), (80, .iload_n 3, 1), (81, .aload_n 0, 1), (82, .invokevirtual 371, 3), (85, .if_icmp .ne 9, 3), (88, .sipush 1000, 3), (91, .goto 19, 3), (94, .aload_n 0, 1), (95, .iload_n 2, 1), (96, .iconst 1, 1), (97, .isub, 1), (98, .iload_n 3, 1), (99, .aload_n 0, 1), (100, .iload_n 2, 1), (101, .iconst 1, 1), (102, .isub, 1), (103, .iload_n 3, 1), (104, .invokevirtual 508, 3), (107, .invokevirtual 505, 3), (110, .istore 4, 2), (112, .aload_n 0, 1), (113, .getfield 170, 3), (116, .bipush 41, 2), (118, .iload_n 2, 1), (119, .imul, 1), (120, .iload_n 3, 1), (121, .iadd, 1), (122, .iload 4, 2), (124, .sipush 1000, 3), (127, .if_icmp .lt 9, 3), (130, .sipush 1000, 3), (133, .goto 5, 3), (136, .iload 4, 2), (138, .iastore, 1), (139, .iinc 3 1, 3), (142, .goto (-78), 3), (145, .iinc 2 1, 3), (148, .goto (-92), 3), (151, .aload_n 0, 1), (152, .getfield 170, 3), (155, .sipush 2460, 3), (158, .aload_n 0, 1), (159, .getfield 139, 3), (162, .iconst 1, 1), (163, .iaload, 1), (164, .iadd, 1), (165, .iaload, 1), (166, .istore_n 2, 1), (167, .iload_n 1, 1), (168, .ifCond .ne 16, 3), (171, .iload_n 2, 1), (172, .sipush 1000, 3), (175, .if_icmp .lt 7, 3), (178, .iconst (-1), 1), (179, .goto 4, 3), (182, .iload_n 2, 1), (183, .ireturn, 1), (184, .aload_n 0, 1), (185, .aload_n 0, 1), (186, .getfield 139, 3), (189, .iconst 1, 1), (190, .iaload, 1), (191, .invokevirtual 403, 3), (194, .ifCond .eq 7, 3), (197, .iconst (-1), 1), (198, .goto 15, 3), (201, .aload_n 0, 1), (202, .bipush 59, 2), (204, .aload_n 0, 1), (205, .getfield 139, 3), (208, .iconst 1, 1), (209, .iaload, 1), (210, .invokevirtual 508, 3), (213, .ireturn, 1)]
def zq_L258 : List (Nat × Instr × Nat) := [(0, .iconst 0, 1), (1, .istore_n 3, 1), (2, .iconst 1, 1), (3, .istore 4, 2), (5, .iload 4, 2), (7, .iconst 3, 1), (8, .if_icmp .ge 34, 3), (11, .aload_n 0, 1), (12, .iload_n 1, 1), (13, .iload_n 2, 1), (14, .iload 4, 2), (16, .invokevirtual 505, 3), (19, .aload_n 0, 1), (20, .iload_n 1, 1), (21, .iload_n 2, 1), (22, .iload_n 3, 1), (23, .invokevirtual 505, 3), (26, .if_icmp .le 8, 3), (29, .iload 4, 2), (31, .goto 4, 3), (34, .iload_n 3, 1), (35, .istore_n 3, 1), (36, .iinc 4 1, 3), (39, .goto (-34), 3), (42, .iload_n 3, 1), (43, .ireturn, 1)]
def zq_L259 : List (Nat × Instr × Nat) := [(0, .aload_n 0, 1), (1, .iload_n 2, 1), (2, .aload_n 0, 1), (3, .getfield 161, 3), (6, .iload_n 3, 1), (7, .iaload, 1), (8, .iadd, 1), (9, .invokevirtual 412, 3), (12, .istore 4, 2), (14, .iconst 1, 1), (15, .aload_n 0, 1), (16, .getfield 170, 3), (19, .bipush 41, 2), (21, .iload_n 1, 1), (22, .imul, 1), (23, .iload 4, 2), (25, .iadd, 1), (26, .iaload, 1), (27, .iadd, 1), (28, .ireturn, 1)]
def zq_L260 : List (Nat × Instr × Nat) := [(0, .iconst 0, 1), (1, .istore 4, 2), (3, .iconst (-1), 1), (4, .istore 5, 2), (6, .iload_n 1, 1), (7, .iconst 0, 1), (8, .sipush 999, 3), (11, .invokestatic 245, 3), (14, .ifCond .eq 23, 3), (17, .iload_n 2, 1), (18, .iconst 0, 1), (19, .sipush 999, 3), (22, .invokestatic 245, 3), (25, .ifCond .eq 12, 3), (28, .iload_n 3, 1), (29, .iconst (-1), 1), (30, .if_icmp .lt 7, 3), (33, .iconst 1, 1), (34, .goto 4, 3), (37, .iconst 0, 1), (38, .istore 6, 2), (40, .iconst 0, 1), (41, .istore 7, 2), (43, .iload 7, 2), (45, .iconst 4, 1), (46, .if_icmp .ge 114, 3), (49, .iload 6, 2), (51, .ifCond .eq 109, 3), (54, .aload_n 0, 1), (55, .iload_n 1, 1), (56, .iload_n 2, 1), (57, .iload 7, 2), (59, .iconst 2, 1), (60, .idiv, 1), (61, .iload 7, 2), (63, .iconst 2, 1), (64, .irem, 1), (65, .invokevirtual 511, 3), (68, .istore 8, 2), (70, .aload_n 0, 1), (71, .iload_n 1, 1), (72, .iload_n 2, 1), (73, .iconst 1, 1), (74, .iload 7, 2), (76, .iconst 2, 1), (77, .idiv, 1), (78, .isub, 1), (79, .iload 7, 2), (81, .iconst 2, 1), (82, .irem, 1), (83, .invokevirtual 511, 3), (86, .iload 8, 2), (88, .if_icmp .gt 28, 3), (91, .aload_n 0, 1), (92, .iload_n 1, 1), (93, .iload_n 2, 1), (94, .iload 7, 2), (96, .iconst 2, 1), (97, .idiv, 1), (98, .iconst 1, 1), (99, .iload 7, 2), (101, .iconst 2, 1), (102, .irem, 1), (103, .isub, 1), (104, .invokevirtual 511, 3), (107, .iload 8, 2), (109, .if_icmp .lt 7, 3), (112, .iconst 1, 1), (113, .goto 4, 3), (116, .iconst 0, 1), (117, .istore 9, 2), (119, .iload 9, 2), (121, .ifCond .eq 14, 3), (124, .iload 4, 2), (126, .iload_n 3, 1), (127, .if_icmp .ne 8, 3), (130, .iload 7, 2), (132, .goto 5, 3), (135, .iload 5, 2), (137, .istore 5, 2), (139, .iload 4, 2), (141, .iload 9, 2), (143, .ifCond .eq 7, 3), (146, .iconst 1, 1), (147, .goto 4, 3), (150, .iconst 0, 1), (151, .iadd, 1), (152, .istore 4, 2), (154, .iinc 7 1, 3), (157, .goto (-114), 3), (160, .aload_n 0, 1), (161, .iload 6, 2), (163, .ifCond .eq 16, 3), (166, .iload_n 3, 1), (167, .ifCond .lt 8, 3), (170, .iload 5, 2), (172, .ifCond .lt 7, 3), (175, .iconst 0, 1), (176, .goto 4, 3), (179, .iconst 1, 1), (180, .putfield 1, 3), (183, .aload_n 0, 1), (184, .getfield 1, 3), (187, .ifCond .le 7, 3), (190, .iconst 0, 1), (191, .goto 14, 3), (194, .iload_n 3, 1), (195, .ifCond .ge 8, 3), (198, .iload 4, 2), (200, .goto 5, 3), (203, .iload 5, 2), (205, .ireturn, 1)]
def zq_L261 : List (Nat × Instr × Nat) := [(0, .aload_n 0, 1), (1, .iload_n 1, 1), (2, .iload_n 2, 1), (3, .iload_n 3, 1), (4, .invokevirtual 409, 3), (7, .aload_n 0, 1), (8, .iload_n 2, 1), (9, .iload_n 1, 1), (10, .iload 4, 2), (12, .invokevirtual 409, 3), (15, .isub, 1), (16, .ireturn, 1)]
def zq_L262 : List (Nat × Instr × Nat) := [(0, .aload_n 0, 1), (1, .iconst 0, 1), (2, .putfield 1, 3), (5, .iload_n 1, 1), (6, .iconst 0, 1), (7, .sipush 9999, 3), (10, .invokestatic 245, 3), (13, .ifCond .eq 22, 3), (16, .iload_n 2, 1), (17, .iconst 1, 1), (18, .bipush 40, 2), (20, .invokestatic 245, 3), (23, .ifCond .eq 12, 3), (26, .iload_n 3, 1), (27, .iconst 0, 1), (28, .iconst 2, 1), (29, .invokestatic 245, 3), (32, .ifCond .ne 5, 3), (35, .iconst (-1), 1), (36, .ireturn, 1), (37, .aload_n 0, 1), (38, .iconst 0, 1), (39, .sipush 880, 3), (42, .bipush 16, 2), (44, .invokevirtual 331, 3), (47, .aload_n 0, 1), (48, .iload_n 1, 1), (49, .i2l, 1), (50, .putfield 374, 3), (53, .iconst 0, 1), (54, .istore 4, 2), (56, .iconst 0, 1), (57, .istore 5, 2), (59, .iconst 0, 1), (60, .istore 6, 2), (62, .iload 6, 2), (64, .iload_n 2, 1), (65, .if_icmp .ge 170, 3), (68, .aload_n 0, 1), (69, .sipush 880, 3), (72, .invokevirtual 392, 3), (75, .aload_n 0, 1), (76, .invokevirtual 315, 3), (79, .ifCond .le 14, 3), (82, .aload_n 0, 1), (83, .getfield 139, 3), (86, .sipush 884, 3), (89, .iaload, 1), (90, .goto 4, 3), (93, .iconst (-1), 1), (94, .istore 7, 2), (96, .iload 5, 2), (98, .iload 7, 2), (100, .ifCond .lt 24, 3), (103, .aload_n 0, 1), (104, .iload 7, 2), (106, .iconst 0, 1), (107, .invokevirtual 344, 3), (110, .aload_n 0, 1), (111, .getfield 109, 3), (114, .bipush 6, 2), (116, .iaload, 1), (117, .if_icmp .ge 7, 3), (120, .iconst 1, 1), (121, .goto 4, 3), (124, .iconst 0, 1), (125, .iadd, 1), (126, .istore 5, 2), (128, .aload_n 0, 1), (129, .getfield 139, 3), (132, .sipush 882, 3), (135, .aload_n 0, 1), (136, .iconst 3, 1), (137, .invokevirtual 386, 3), (140, .iastore, 1), (141, .aload_n 0, 1), (142, .sipush 880, 3), (145, .invokevirtual 368, 3), (148, .istore 8, 2), (150, .iconst 0, 1), (151, .istore 9, 2), (153, .iload 9, 2), (155, .aload_n 0, 1), (156, .getfield 109, 3), (159, .iconst 5, 1), (160, .iaload, 1), (161, .if_icmp .ge 68, 3), (164, .aload_n 0, 1), (165, .aload_n 0, 1), (166, .getfield 139, 3), (169, .sipush 881, 3), (172, .iaload, 1), (173, .invokevirtual 403, 3), (176, .ifCond .ne 53, 3), (179, .aload_n 0, 1), (180, .getfield 139, 3), (183, .sipush 881, 3), (186, .aload_n 0, 1), (187, .aload_n 0, 1), (188, .getfield 139, 3), (191, .sipush 881, 3), (194, .iaload, 1), (195, .aload_n 0, 1), (196, .iload 8, 2), (198, .aload_n 0, 1), (199, .getfield 109, 3), (202, .iconst 4, 1), (203, .iaload, 1), (204, .aload_n 0, 1), (205, .getfield 139, 3), (208, .sipush 882, 3), (211, .iaload, 1), (212, .invokevirtual 409, 3), (215, .iadd, 1), (216, .invokevirtual 412, 3), (219, .iastore, 1), (220, .iinc 4 1, 3), (223, .iinc 9 1, 3), (226, .goto (-73), 3), (229, .iinc 6 1, 3), (232, .goto (-170), 3), (235, .iload_n 3, 1), (236, .ifCond .ne 14, 3), (239, .aload_n 0, 1), (240, .getfield 139, 3), (243, .sipush 881, 3), (246, .iaload, 1), (247, .goto 15, 3), (250, .iload_n 3, 1), (251, .iconst 1, 1), (252, .if_icmp .ne 8, 3), (255, .iload 4, 2), (257, .goto 5, 3), (260, .iload 5, 2), (262, .ireturn, 1)]
def zq_L263 : List (Nat × Instr × Nat) := [(0, .aload_n 0, 1), (1, .iconst 0, 1), (2, .putfield 1, 3), (5, .iload_n 1, 1), (6, .iconst 0, 1), (7, .iconst 3, 1), (8, .invokestatic 245, 3), (11, .ifCond .eq 16, 3), (14, .iload_n 2, 1), (15, .ifCond .eq 14, 3), (18, .aload_n 0, 1), (19, .getfield 142, 3), (22, .iload_n 1, 1), (23, .baload, 1), (24, .ifCond .ne 5, 3), (27, .iconst 0, 1), (28, .ireturn, 1), (29, .aload_n 0, 1), (30, .getfield 142, 3), (33, .iload_n 1, 1), (34, .iconst 1, 1), (35, .bastore, 1), (36, .aload_n 0, 1), (37, .iload_n 2, 1), (38, .ifCond .eq 12, 3), (41, .bipush 40, 2), (43, .iconst 1, 1), (44, .iload_n 1, 1), (45, .iadd, 1), (46, .imul, 1), (47, .goto 4, 3), (50, .iconst 0, 1), (51, .iload_n 2, 1), (52, .ifCond .eq 7, 3), (55, .iconst 0, 1), (56, .goto 9, 3), (59, .bipush 40, 2), (61, .iconst 1, 1), (62, .iload_n 1, 1), (63, .iadd, 1), (64, .imul, 1), (65, .bipush 40, 2), (67, .invokevirtual 331, 3), (70, .aload_n 0, 1), (71, .iload_n 2, 1), (72, .ifCond .eq 7, 3), (75, .iconst 0, 1), (76, .goto 7, 3), (79, .aload_n 0, 1), (80, .getfield 328, 3), (83, .putfield 328, 3), (86, .iconst 1, 1), (87, .ireturn, 1)]
def zq_L264 : List (Nat × Instr × Nat) := [(0, .aload_n 0, 1), (1, .iconst 0, 1), (2, .putfield 1, 3), (5, .iconst 0, 1), (6, .istore_n 2, 1), (7, .iconst 0, 1), (8, .istore_n 3, 1), (9, .iload_n 3, 1), (10, .aload_n 0, 1), (11, .invokevirtual 319, 3), (14, .if_icmp .ge 21, 3), (17, .iload_n 2, 1), (18, .aload_n 0, 1), (19, .getfield 139, 3), (22, .bipush 10, 2), (24, .iload_n 3, 1), (25, .iadd, 1), (26, .iaload, 1), (27, .iadd, 1), (28, .istore_n 2, 1), (29, .iinc 3 1, 3), (32, .goto (-23), 3), (35, .iload_n 1, 1), (36, .tableswitch 153 0 12 #[68, 73, 78, 83, 90, 97, 104, 106, 113, 121, 129, 134, 139], 68), (104, .aload_n 0, 1), (105, .invokevirtual 315, 3), (108, .ireturn, 1), (109, .aload_n 0, 1), (110, .invokevirtual 319, 3), (113, .ireturn, 1), (114, .aload_n 0, 1), (115, .invokevirtual 371, 3), (118, .ireturn, 1), (119, .aload_n 0, 1), (120, .getfield 139, 3), (123, .iconst 1, 1), (124, .iaload, 1), (125, .ireturn, 1), (126, .aload_n 0, 1), (127, .getfield 139, 3), (130, .iconst 0, 1), (131, .iaload, 1), (132, .ireturn, 1), (133, .aload_n 0, 1), (134, .getfield 139, 3), (137, .iconst 2, 1), (138, .iaload, 1), (139, .ireturn, 1), (140, .iload_n 2, 1), (141, .ireturn, 1), (142, .aload_n 0, 1), (143, .getfield 130, 3), (146, .iconst 0, 1), (147, .iaload, 1), (148, .ireturn, 1), (149, .aload_n 0, 1), (150, .getfield 139, 3), (153, .bipush 16, 2), (155, .iaload, 1), (156, .ireturn, 1), (157, .aload_n 0, 1), (158, .getfield 139, 3), (161, .bipush 22, 2), (163, .iaload, 1), (164, .ireturn, 1), (165, .aload_n 0, 1), (166, .getfield 328, 3), (169, .ireturn, 1), (170, .aload_n 0, 1), (171, .getfield 11, 3), (174, .ireturn, 1), (175, .aload_n 0, 1), (176, .iconst 0, 1), (177, .invokevirtual 406, 3), (180, .ifCond .eq 7, 3), (183, .iconst 1, 1), (184, .goto 4, 3), (187, .iconst 0, 1), (188, .ireturn, 1), (189, .iconst (-1), 1), (190, .ireturn, 1)]
theorem zq_d0 : ∀ q ∈ zq_L0, decode prog_1_method_1_code q.1 = .ok q.2 := by decide +kernel
theorem zq_d1 : ∀ q ∈ zq_L1, decode prog_7_method_1_code q.1 = .ok q.2 := by decide +kernel
theorem zq_d2 : ∀ q ∈ zq_L2, decode prog_6_method_1_code q.1 = .ok q.2 := by decide +kernel
theorem zq_d3 : ∀ q ∈ zq_L3, decode prog_4_method_1_code q.1 = .ok q.2 := by decide +kernel
theorem zq_d4 : ∀ q ∈ zq_L4, decode prog_10_method_1_code q.1 = .ok q.2 := by decide +kernel
theorem zq_d5 : ∀ q ∈ zq_L5, decode prog_8_method_1_code q.1 = .ok q.2 := by decide +kernel
theorem zq_d6 : ∀ q ∈ zq_L6, decode prog_5_method_1_code q.1 = .ok q.2 := by decide +kernel
theorem zq_d7 : ∀ q ∈ zq_L7, decode prog_2_method_1_code q.1 = .ok q.2 := by decide +kernel
theorem zq_d8 : ∀ q ∈ zq_L8, decode prog_3_method_1_code q.1 = .ok q.2 := by decide +kernel
theorem zq_d9 : ∀ q ∈ zq_L9, decode prog_9_method_1_code q.1 = .ok q.2 := by decide +kernel
theorem zq_d10 : ∀ q ∈ zq_L10, decode prog_6_method_2_code q.1 = .ok q.2 := by decide +kernel
theorem zq_d11 : ∀ q ∈ zq_L11, decode prog_1_method_47_code q.1 = .ok q.2 := by decide +kernel
theorem zq_d12 : ∀ q ∈ zq_L12, decode prog_1_method_46_code q.1 = .ok q.2 := by decide +kernel
theorem zq_d13 : ∀ q ∈ zq_L13, decode prog_1_method_2_code q.1 = .ok q.2 := by decide +kernel
theorem zq_d14 : ∀ q ∈ zq_L14, decode prog_7_method_2_code q.1 = .ok q.2 := by decide +kernel
theorem zq_d15 : ∀ q ∈ zq_L15, decode prog_1_method_3_code q.1 = .ok q.2 := by decide +kernel
theorem zq_d16 : ∀ q ∈ zq_L16, decode prog_2_method_3_code q.1 = .ok q.2 := by decide +kernel
theorem zq_d17 : ∀ q ∈ zq_L17, decode prog_2_method_2_code q.1 = .ok q.2 := by decide +kernel
theorem zq_d18 : ∀ q ∈ zq_L18, decode prog_3_method_2_code q.1 = .ok q.2 := by decide +kernel
theorem zq_d19 : ∀ q ∈ zq_L19, decode prog_7_method_3_code q.1 = .ok q.2 := by decide +kernel
theorem zq_d20 : ∀ q ∈ zq_L20, decode prog_7_method_5_code q.1 = .ok q.2 := by decide +kernel
theorem zq_d21 : ∀ q ∈ zq_L21, decode prog_7_method_6_code q.1 = .ok q.2 := by decide +kernel
theorem zq_d22 : ∀ q ∈ zq_L22, decode prog_7_method_7_code q.1 = .ok q.2 := by decide +kernel
theorem zq_d23 : ∀ q ∈ zq_L23, decode prog_7_method_8_code q.1 = .ok q.2 := by decide +kernel
theorem zq_d24 : ∀ q ∈ zq_L24, decode prog_2_method_4_code q.1 = .ok q.2 := by decide +kernel
theorem zq_d25 : ∀ q ∈ zq_L25, decode prog_2_method_7_code q.1 = .ok q.2 := by decide +kernel
theorem zq_d26 : ∀ q ∈ zq_L26, decode prog_7_method_12_code q.1 = .ok q.2 := by decide +kernel
theorem zq_d27 : ∀ q ∈ zq_L27, decode prog_2_method_10_code q.1 = .ok q.2 := by decide +kernel
theorem zq_d28 : ∀ q ∈ zq_L28, decode prog_7_method_10_code q.1 = .ok q.2 := by decide +kernel
theorem zq_d29 : ∀ q ∈ zq_L29, decode prog_2_method_12_code q.1 = .ok q.2 := by decide +kernel
theorem zq_d30 : ∀ q ∈ zq_L30, decode prog_2_method_11_code q.1 = .ok q.2 := by decide +kernel
theorem zq_d31 : ∀ q ∈ zq_L31, decode prog_7_method_15_code q.1 = .ok q.2 := by decide +kernel
theorem zq_d32 : ∀ q ∈ zq_L32, decode prog_7_method_11_code q.1 = .ok q.2 := by decide +kernel
theorem zq_d33 : ∀ q ∈ zq_L33, decode prog_7_method_14_code q.1 = .ok q.2 := by decide +kernel
theorem zq_d34 : ∀ q ∈ zq_L34, decode prog_7_method_16_code q.1 = .ok q.2 := by decide +kernel
theorem zq_d35 : ∀ q ∈ zq_L35, decode prog_1_method_44_code q.1 = .ok q.2 := by decide +kernel
theorem zq_d36 : ∀ q ∈ zq_L36, decode prog_2_method_8_code q.1 = .ok q.2 := by decide +kernel
theorem zq_d37 : ∀ q ∈ zq_L37, decode prog_7_method_13_code q.1 = .ok q.2 := by decide +kernel
theorem zq_d38 : ∀ q ∈ zq_L38, decode prog_7_method_9_code q.1 = .ok q.2 := by decide +kernel
theorem zq_d39 : ∀ q ∈ zq_L39, decode prog_2_method_9_code q.1 = .ok q.2 := by decide +kernel
theorem zq_d40 : ∀ q ∈ zq_L40, decode prog_3_method_4_code q.1 = .ok q.2 := by decide +kernel
theorem zq_d41 : ∀ q ∈ zq_L41, decode prog_3_method_6_code q.1 = .ok q.2 := by decide +kernel
theorem zq_d42 : ∀ q ∈ zq_L42, decode prog_3_method_7_code q.1 = .ok q.2 := by decide +kernel
theorem zq_d43 : ∀ q ∈ zq_L43, decode prog_3_method_8_code q.1 = .ok q.2 := by decide +kernel
theorem zq_d44 : ∀ q ∈ zq_L44, decode prog_3_method_9_code q.1 = .ok q.2 := by decide +kernel
theorem zq_d45 : ∀ q ∈ zq_L45, decode prog_3_method_10_code q.1 = .ok q.2 := by decide +kernel
theorem zq_d46 : ∀ q ∈ zq_L46, decode prog_3_method_5_code q.1 = .ok q.2 := by decide +kernel
theorem zq_d47 : ∀ q ∈ zq_L47, decode prog_2_method_5_code q.1 = .ok q.2 := by decide +kernel
theorem zq_d48 : ∀ q ∈ zq_L48, decode prog_2_method_6_code q.1 = .ok q.2 := by decide +kernel
theorem zq_d49 : ∀ q ∈ zq_L49, decode prog_2_method_13_code q.1 = .ok q.2 := by decide +kernel
theorem zq_d50 : ∀ q ∈ zq_L50, decode prog_2_method_14_code q.1 = .ok q.2 := by decide +kernel
theorem zq_d51 : ∀ q ∈ zq_L51, decode prog_3_method_3_code q.1 = .ok q.2 := by decide +kernel
theorem zq_d52 : ∀ q ∈ zq_L52, decode prog_2_method_16_code q.1 = .ok q.2 := by decide +kernel
theorem zq_d53 : ∀ q ∈ zq_L53, decode prog_3_method_11_code q.1 = .ok q.2 := by decide +kernel
theorem zq_d54 : ∀ q ∈ zq_L54, decode prog_3_method_12_code q.1 = .ok q.2 := by decide +kernel
theorem zq_d55 : ∀ q ∈ zq_L55, decode prog_1_method_45_code q.1 = .ok q.2 := by decide +kernel
theorem zq_d56 : ∀ q ∈ zq_L56, decode prog_2_method_15_code q.1 = .ok q.2 := by decide +kernel
theorem zq_d57 : ∀ q ∈ zq_L57, decode prog_7_method_4_code q.1 = .ok q.2 := by decide +kernel
theorem zq_d58 : ∀ q ∈ zq_L58, decode prog_4_method_2_code q.1 = .ok q.2 := by decide +kernel
theorem zq_d59 : ∀ q ∈ zq_L59, decode prog_1_method_4_code q.1 = .ok q.2 := by decide +kernel
theorem zq_d60 : ∀ q ∈ zq_L60, decode prog_9_method_2_code q.1 = .ok q.2 := by decide +kernel
theorem zq_d61 : ∀ q ∈ zq_L61, decode prog_9_method_3_code q.1 = .ok q.2 := by decide +kernel
theorem zq_d62 : ∀ q ∈ zq_L62, decode prog_9_method_4_code q.1 = .ok q.2 := by decide +kernel
theorem zq_d63 : ∀ q ∈ zq_L63, decode prog_9_method_5_code q.1 = .ok q.2 := by decide +kernel
theorem zq_d64 : ∀ q ∈ zq_L64, decode prog_9_method_6_code q.1 = .ok q.2 := by decide +kernel
theorem zq_d65 : ∀ q ∈ zq_L65, decode prog_1_method_5_code q.1 = .ok q.2 := by decide +kernel
theorem zq_d66 : ∀ q ∈ zq_L66, decode prog_2_method_17_code q.1 = .ok q.2 := by decide +kernel
theorem zq_d67 : ∀ q ∈ zq_L67, decode prog_2_method_22_code q.1 = .ok q.2 := by decide +kernel
theorem zq_d68 : ∀ q ∈ zq_L68, decode prog_2_method_19_code q.1 = .ok q.2 := by decide +kernel
theorem zq_d69 : ∀ q ∈ zq_L69, decode prog_2_method_18_code q.1 = .ok q.2 := by decide +kernel
theorem zq_d70 : ∀ q ∈ zq_L70, decode prog_1_method_6_code q.1 = .ok q.2 := by decide +kernel
theorem zq_d71 : ∀ q ∈ zq_L71, decode prog_6_method_4_code q.1 = .ok q.2 := by decide +kernel
theorem zq_d72 : ∀ q ∈ zq_L72, decode prog_1_method_7_code q.1 = .ok q.2 := by decide +kernel
theorem zq_d73 : ∀ q ∈ zq_L73, decode prog_1_method_8_code q.1 = .ok q.2 := by decide +kernel
theorem zq_d74 : ∀ q ∈ zq_L74, decode prog_2_method_23_code q.1 = .ok q.2 := by decide +kernel
theorem zq_d75 : ∀ q ∈ zq_L75, decode prog_2_method_21_code q.1 = .ok q.2 := by decide +kernel
theorem zq_d76 : ∀ q ∈ zq_L76, decode prog_1_method_9_code q.1 = .ok q.2 := by decide +kernel
theorem zq_d77 : ∀ q ∈ zq_L77, decode prog_1_method_34_code q.1 = .ok q.2 := by decide +kernel
theorem zq_d78 : ∀ q ∈ zq_L78, decode prog_6_method_3_code q.1 = .ok q.2 := by decide +kernel
theorem zq_d79 : ∀ q ∈ zq_L79, decode prog_5_method_2_code q.1 = .ok q.2 := by decide +kernel
theorem zq_d80 : ∀ q ∈ zq_L80, decode prog_5_method_4_code q.1 = .ok q.2 := by decide +kernel
theorem zq_d81 : ∀ q ∈ zq_L81, decode prog_5_method_3_code q.1 = .ok q.2 := by decide +kernel
theorem zq_d82 : ∀ q ∈ zq_L82, decode prog_1_method_10_code q.1 = .ok q.2 := by decide +kernel
theorem zq_d83 : ∀ q ∈ zq_L83, decode prog_6_method_6_code q.1 = .ok q.2 := by decide +kernel
theorem zq_d84 : ∀ q ∈ zq_L84, decode prog_6_method_7_code q.1 = .ok q.2 := by decide +kernel
theorem zq_d85 : ∀ q ∈ zq_L85, decode prog_1_method_11_code q.1 = .ok q.2 := by decide +kernel
theorem zq_d86 : ∀ q ∈ zq_L86, decode prog_6_method_8_code q.1 = .ok q.2 := by decide +kernel
theorem zq_d87 : ∀ q ∈ zq_L87, decode prog_1_method_12_code q.1 = .ok q.2 := by decide +kernel
theorem zq_d88 : ∀ q ∈ zq_L88, decode prog_6_method_9_code q.1 = .ok q.2 := by decide +kernel
theorem zq_d89 : ∀ q ∈ zq_L89, decode prog_6_method_10_code q.1 = .ok q.2 := by decide +kernel
theorem zq_d90 : ∀ q ∈ zq_L90, decode prog_2_method_24_code q.1 = .ok q.2 := by decide +kernel
theorem zq_d91 : ∀ q ∈ zq_L91, decode prog_17_method_40_code q.1 = .ok q.2 := by decide +kernel
theorem zq_d92 : ∀ q ∈ zq_L92, decode prog_2_method_25_code q.1 = .ok q.2 := by decide +kernel
theorem zq_d93 : ∀ q ∈ zq_L93, decode prog_1_method_13_code q.1 = .ok q.2 := by decide +kernel
theorem zq_d94 : ∀ q ∈ zq_L94, decode prog_1_method_14_code q.1 = .ok q.2 := by decide +kernel
theorem zq_d95 : ∀ q ∈ zq_L95, decode prog_9_method_7_code q.1 = .ok q.2 := by decide +kernel
theorem zq_d96 : ∀ q ∈ zq_L96, decode prog_9_method_8_code q.1 = .ok q.2 := by decide +kernel
theorem zq_d97 : ∀ q ∈ zq_L97, decode prog_1_method_15_code q.1 = .ok q.2 := by decide +kernel
theorem zq_d98 : ∀ q ∈ zq_L98, decode prog_1_method_16_code q.1 = .ok q.2 := by decide +kernel
theorem zq_d99 : ∀ q ∈ zq_L99, decode prog_10_method_2_code q.1 = .ok q.2 := by decide +kernel
theorem zq_d100 : ∀ q ∈ zq_L100, decode prog_10_method_3_code q.1 = .ok q.2 := by decide +kernel
theorem zq_d101 : ∀ q ∈ zq_L101, decode prog_10_method_4_code q.1 = .ok q.2 := by decide +kernel
theorem zq_d102 : ∀ q ∈ zq_L102, decode prog_1_method_17_code q.1 = .ok q.2 := by decide +kernel
theorem zq_d103 : ∀ q ∈ zq_L103, decode prog_10_method_5_code q.1 = .ok q.2 := by decide +kernel
theorem zq_d104 : ∀ q ∈ zq_L104, decode prog_1_method_18_code q.1 = .ok q.2 := by decide +kernel
theorem zq_d105 : ∀ q ∈ zq_L105, decode prog_1_method_19_code q.1 = .ok q.2 := by decide +kernel
theorem zq_d106 : ∀ q ∈ zq_L106, decode prog_10_method_6_code q.1 = .ok q.2 := by decide +kernel
theorem zq_d107 : ∀ q ∈ zq_L107, decode prog_1_method_39_code q.1 = .ok q.2 := by decide +kernel
theorem zq_d108 : ∀ q ∈ zq_L108, decode prog_10_method_7_code q.1 = .ok q.2 := by decide +kernel
theorem zq_d109 : ∀ q ∈ zq_L109, decode prog_10_method_8_code q.1 = .ok q.2 := by decide +kernel
theorem zq_d110 : ∀ q ∈ zq_L110, decode prog_10_method_9_code q.1 = .ok q.2 := by decide +kernel
theorem zq_d111 : ∀ q ∈ zq_L111, decode prog_1_method_20_code q.1 = .ok q.2 := by decide +kernel
theorem zq_d112 : ∀ q ∈ zq_L112, decode prog_8_method_2_code q.1 = .ok q.2 := by decide +kernel
theorem zq_d113 : ∀ q ∈ zq_L113, decode prog_8_method_3_code q.1 = .ok q.2 := by decide +kernel
theorem zq_d114 : ∀ q ∈ zq_L114, decode prog_8_method_4_code q.1 = .ok q.2 := by decide +kernel
theorem zq_d115 : ∀ q ∈ zq_L115, decode prog_2_method_20_code q.1 = .ok q.2 := by decide +kernel
theorem zq_d116 : ∀ q ∈ zq_L116, decode prog_1_method_21_code q.1 = .ok q.2 := by decide +kernel
theorem zq_d117 : ∀ q ∈ zq_L117, decode prog_1_method_22_code q.1 = .ok q.2 := by decide +kernel
theorem zq_d118 : ∀ q ∈ zq_L118, decode prog_1_method_35_code q.1 = .ok q.2 := by decide +kernel
theorem zq_d119 : ∀ q ∈ zq_L119, decode prog_8_method_5_code q.1 = .ok q.2 := by decide +kernel
theorem zq_d120 : ∀ q ∈ zq_L120, decode prog_17_method_49_code q.1 = .ok q.2 := by decide +kernel
theorem zq_d121 : ∀ q ∈ zq_L121, decode prog_1_method_23_code q.1 = .ok q.2 := by decide +kernel
theorem zq_d122 : ∀ q ∈ zq_L122, decode prog_8_method_6_code q.1 = .ok q.2 := by decide +kernel
theorem zq_d123 : ∀ q ∈ zq_L123, decode prog_8_method_7_code q.1 = .ok q.2 := by decide +kernel
theorem zq_d124 : ∀ q ∈ zq_L124, decode prog_1_method_24_code q.1 = .ok q.2 := by decide +kernel
theorem zq_d125 : ∀ q ∈ zq_L125, decode prog_1_method_25_code q.1 = .ok q.2 := by decide +kernel
theorem zq_d126 : ∀ q ∈ zq_L126, decode prog_1_method_36_code q.1 = .ok q.2 := by decide +kernel
theorem zq_d127 : ∀ q ∈ zq_L127, decode prog_4_method_4_code q.1 = .ok q.2 := by decide +kernel
theorem zq_d128 : ∀ q ∈ zq_L128, decode prog_1_method_37_code q.1 = .ok q.2 := by decide +kernel
theorem zq_d129 : ∀ q ∈ zq_L129, decode prog_1_method_38_code q.1 = .ok q.2 := by decide +kernel
theorem zq_d130 : ∀ q ∈ zq_L130, decode prog_1_method_26_code q.1 = .ok q.2 := by decide +kernel
theorem zq_d131 : ∀ q ∈ zq_L131, decode prog_1_method_27_code q.1 = .ok q.2 := by decide +kernel
theorem zq_d132 : ∀ q ∈ zq_L132, decode prog_1_method_28_code q.1 = .ok q.2 := by decide +kernel
theorem zq_d133 : ∀ q ∈ zq_L133, decode prog_1_method_40_code q.1 = .ok q.2 := by decide +kernel
theorem zq_d134 : ∀ q ∈ zq_L134, decode prog_1_method_29_code q.1 = .ok q.2 := by decide +kernel
theorem zq_d135 : ∀ q ∈ zq_L135, decode prog_1_method_41_code q.1 = .ok q.2 := by decide +kernel
theorem zq_d136 : ∀ q ∈ zq_L136, decode prog_1_method_42_code q.1 = .ok q.2 := by decide +kernel
theorem zq_d137 : ∀ q ∈ zq_L137, decode prog_1_method_31_code q.1 = .ok q.2 := by decide +kernel
theorem zq_d138 : ∀ q ∈ zq_L138, decode prog_1_method_32_code q.1 = .ok q.2 := by decide +kernel
theorem zq_d139 : ∀ q ∈ zq_L139, decode prog_4_method_3_code q.1 = .ok q.2 := by decide +kernel
theorem zq_d140 : ∀ q ∈ zq_L140, decode prog_1_method_33_code q.1 = .ok q.2 := by decide +kernel
theorem zq_d141 : ∀ q ∈ zq_L141, decode prog_6_method_5_code q.1 = .ok q.2 := by decide +kernel
theorem zq_d142 : ∀ q ∈ zq_L142, decode prog_1_method_30_code q.1 = .ok q.2 := by decide +kernel
theorem zq_d143 : ∀ q ∈ zq_L143, decode prog_1_method_43_code q.1 = .ok q.2 := by decide +kernel
theorem zq_d144 : ∀ q ∈ zq_L144, decode prog_13_method_1_code q.1 = .ok q.2 := by decide +kernel
theorem zq_d145 : ∀ q ∈ zq_L145, decode prog_13_method_2_code q.1 = .ok q.2 := by decide +kernel
theorem zq_d146 : ∀ q ∈ zq_L146, decode prog_13_method_3_code q.1 = .ok q.2 := by decide +kernel
theorem zq_d147 : ∀ q ∈ zq_L147, decode prog_13_method_4_code q.1 = .ok q.2 := by decide +kernel
theorem zq_d148 : ∀ q ∈ zq_L148, decode prog_13_method_18_code q.1 = .ok q.2 := by decide +kernel
theorem zq_d149 : ∀ q ∈ zq_L149, decode prog_13_method_43_code q.1 = .ok q.2 := by decide +kernel
theorem zq_d150 : ∀ q ∈ zq_L150, decode prog_13_method_42_code q.1 = .ok q.2 := by decide +kernel
theorem zq_d151 : ∀ q ∈ zq_L151, decode prog_13_method_45_code q.1 = .ok q.2 := by decide +kernel
theorem zq_d152 : ∀ q ∈ zq_L152, decode prog_13_method_46_code q.1 = .ok q.2 := by decide +kernel
theorem zq_d153 : ∀ q ∈ zq_L153, decode prog_13_method_50_code q.1 = .ok q.2 := by decide +kernel
theorem zq_d154 : ∀ q ∈ zq_L154, decode prog_13_method_26_code q.1 = .ok q.2 := by decide +kernel
theorem zq_d155 : ∀ q ∈ zq_L155, decode prog_13_method_9_code q.1 = .ok q.2 := by decide +kernel
theorem zq_d156 : ∀ q ∈ zq_L156, decode prog_13_method_5_code q.1 = .ok q.2 := by decide +kernel
theorem zq_d157 : ∀ q ∈ zq_L157, decode prog_13_method_7_code q.1 = .ok q.2 := by decide +kernel
theorem zq_d158 : ∀ q ∈ zq_L158, decode prog_13_method_6_code q.1 = .ok q.2 := by decide +kernel
theorem zq_d159 : ∀ q ∈ zq_L159, decode prog_13_method_8_code q.1 = .ok q.2 := by decide +kernel
theorem zq_d160 : ∀ q ∈ zq_L160, decode prog_13_method_12_code q.1 = .ok q.2 := by decide +kernel
theorem zq_d161 : ∀ q ∈ zq_L161, decode prog_13_method_28_code q.1 = .ok q.2 := by decide +kernel
theorem zq_d162 : ∀ q ∈ zq_L162, decode prog_13_method_10_code q.1 = .ok q.2 := by decide +kernel
theorem zq_d163 : ∀ q ∈ zq_L163, decode prog_13_method_27_code q.1 = .ok q.2 := by decide +kernel
theorem zq_d164 : ∀ q ∈ zq_L164, decode prog_13_method_23_code q.1 = .ok q.2 := by decide +kernel
theorem zq_d165 : ∀ q ∈ zq_L165, decode prog_13_method_21_code q.1 = .ok q.2 := by decide +kernel
theorem zq_d166 : ∀ q ∈ zq_L166, decode prog_13_method_24_code q.1 = .ok q.2 := by decide +kernel
theorem zq_d167 : ∀ q ∈ zq_L167, decode prog_13_method_22_code q.1 = .ok q.2 := by decide +kernel
theorem zq_d168 : ∀ q ∈ zq_L168, decode prog_13_method_20_code q.1 = .ok q.2 := by decide +kernel
theorem zq_d169 : ∀ q ∈ zq_L169, decode prog_13_method_16_code q.1 = .ok q.2 := by decide +kernel
theorem zq_d170 : ∀ q ∈ zq_L170, decode prog_13_method_15_code q.1 = .ok q.2 := by decide +kernel
theorem zq_d171 : ∀ q ∈ zq_L171, decode prog_13_method_19_code q.1 = .ok q.2 := by decide +kernel
theorem zq_d172 : ∀ q ∈ zq_L172, decode prog_13_method_25_code q.1 = .ok q.2 := by decide +kernel
theorem zq_d173 : ∀ q ∈ zq_L173, decode prog_13_method_17_code q.1 = .ok q.2 := by decide +kernel
theorem zq_d174 : ∀ q ∈ zq_L174, decode prog_13_method_29_code q.1 = .ok q.2 := by decide +kernel
theorem zq_d175 : ∀ q ∈ zq_L175, decode prog_13_method_30_code q.1 = .ok q.2 := by decide +kernel
theorem zq_d176 : ∀ q ∈ zq_L176, decode prog_13_method_34_code q.1 = .ok q.2 := by decide +kernel
theorem zq_d177 : ∀ q ∈ zq_L177, decode prog_13_method_35_code q.1 = .ok q.2 := by decide +kernel
theorem zq_d178 : ∀ q ∈ zq_L178, decode prog_13_method_36_code q.1 = .ok q.2 := by decide +kernel
theorem zq_d179 : ∀ q ∈ zq_L179, decode prog_13_method_37_code q.1 = .ok q.2 := by decide +kernel
theorem zq_d180 : ∀ q ∈ zq_L180, decode prog_13_method_38_code q.1 = .ok q.2 := by decide +kernel
theorem zq_d181 : ∀ q ∈ zq_L181, decode prog_13_method_11_code q.1 = .ok q.2 := by decide +kernel
theorem zq_d182 : ∀ q ∈ zq_L182, decode prog_13_method_33_code q.1 = .ok q.2 := by decide +kernel
theorem zq_d183 : ∀ q ∈ zq_L183, decode prog_13_method_14_code q.1 = .ok q.2 := by decide +kernel
theorem zq_d184 : ∀ q ∈ zq_L184, decode prog_13_method_13_code q.1 = .ok q.2 := by decide +kernel
theorem zq_d185 : ∀ q ∈ zq_L185, decode prog_13_method_31_code q.1 = .ok q.2 := by decide +kernel
theorem zq_d186 : ∀ q ∈ zq_L186, decode prog_13_method_32_code q.1 = .ok q.2 := by decide +kernel
theorem zq_d187 : ∀ q ∈ zq_L187, decode prog_13_method_61_code q.1 = .ok q.2 := by decide +kernel
theorem zq_d188 : ∀ q ∈ zq_L188, decode prog_13_method_51_code q.1 = .ok q.2 := by decide +kernel
theorem zq_d189 : ∀ q ∈ zq_L189, decode prog_13_method_59_code q.1 = .ok q.2 := by decide +kernel
theorem zq_d190 : ∀ q ∈ zq_L190, decode prog_13_method_56_code q.1 = .ok q.2 := by decide +kernel
theorem zq_d191 : ∀ q ∈ zq_L191, decode prog_13_method_55_code q.1 = .ok q.2 := by decide +kernel
theorem zq_d192 : ∀ q ∈ zq_L192, decode prog_13_method_54_code q.1 = .ok q.2 := by decide +kernel
theorem zq_d193 : ∀ q ∈ zq_L193, decode prog_13_method_49_code q.1 = .ok q.2 := by decide +kernel
theorem zq_d194 : ∀ q ∈ zq_L194, decode prog_13_method_39_code q.1 = .ok q.2 := by decide +kernel
theorem zq_d195 : ∀ q ∈ zq_L195, decode prog_13_method_40_code q.1 = .ok q.2 := by decide +kernel
theorem zq_d196 : ∀ q ∈ zq_L196, decode prog_13_method_57_code q.1 = .ok q.2 := by decide +kernel
theorem zq_d197 : ∀ q ∈ zq_L197, decode prog_13_method_62_code q.1 = .ok q.2 := by decide +kernel
theorem zq_d198 : ∀ q ∈ zq_L198, decode prog_13_method_52_code q.1 = .ok q.2 := by decide +kernel
theorem zq_d199 : ∀ q ∈ zq_L199, decode prog_13_method_53_code q.1 = .ok q.2 := by decide +kernel
theorem zq_d200 : ∀ q ∈ zq_L200, decode prog_13_method_63_code q.1 = .ok q.2 := by decide +kernel
theorem zq_d201 : ∀ q ∈ zq_L201, decode prog_13_method_64_code q.1 = .ok q.2 := by decide +kernel
theorem zq_d202 : ∀ q ∈ zq_L202, decode prog_13_method_60_code q.1 = .ok q.2 := by decide +kernel
theorem zq_d203 : ∀ q ∈ zq_L203, decode prog_13_method_58_code q.1 = .ok q.2 := by decide +kernel
theorem zq_d204 : ∀ q ∈ zq_L204, decode prog_13_method_70_code q.1 = .ok q.2 := by decide +kernel
theorem zq_d205 : ∀ q ∈ zq_L205, decode prog_13_method_44_code q.1 = .ok q.2 := by decide +kernel
theorem zq_d206 : ∀ q ∈ zq_L206, decode prog_13_method_41_code q.1 = .ok q.2 := by decide +kernel
theorem zq_d207 : ∀ q ∈ zq_L207, decode prog_13_method_69_code q.1 = .ok q.2 := by decide +kernel
theorem zq_d208 : ∀ q ∈ zq_L208, decode prog_13_method_68_code q.1 = .ok q.2 := by decide +kernel
theorem zq_d209 : ∀ q ∈ zq_L209, decode prog_13_method_73_code q.1 = .ok q.2 := by decide +kernel
theorem zq_d210 : ∀ q ∈ zq_L210, decode prog_13_method_71_code q.1 = .ok q.2 := by decide +kernel
theorem zq_d211 : ∀ q ∈ zq_L211, decode prog_13_method_72_code q.1 = .ok q.2 := by decide +kernel
theorem zq_d212 : ∀ q ∈ zq_L212, decode prog_13_method_74_code q.1 = .ok q.2 := by decide +kernel
theorem zq_d213 : ∀ q ∈ zq_L213, decode prog_13_method_77_code q.1 = .ok q.2 := by decide +kernel
theorem zq_d214 : ∀ q ∈ zq_L214, decode prog_13_method_67_code q.1 = .ok q.2 := by decide +kernel
theorem zq_d215 : ∀ q ∈ zq_L215, decode prog_13_method_48_code q.1 = .ok q.2 := by decide +kernel
theorem zq_d216 : ∀ q ∈ zq_L216, decode prog_13_method_75_code q.1 = .ok q.2 := by decide +kernel
theorem zq_d217 : ∀ q ∈ zq_L217, decode prog_13_method_76_code q.1 = .ok q.2 := by decide +kernel
theorem zq_d218 : ∀ q ∈ zq_L218, decode prog_13_method_65_code q.1 = .ok q.2 := by decide +kernel
theorem zq_d219 : ∀ q ∈ zq_L219, decode prog_13_method_66_code q.1 = .ok q.2 := by decide +kernel
theorem zq_d220 : ∀ q ∈ zq_L220, decode prog_13_method_78_code q.1 = .ok q.2 := by decide +kernel
theorem zq_d221 : ∀ q ∈ zq_L221, decode prog_13_method_80_code q.1 = .ok q.2 := by decide +kernel
theorem zq_d222 : ∀ q ∈ zq_L222, decode prog_13_method_79_code q.1 = .ok q.2 := by decide +kernel
theorem zq_d223 : ∀ q ∈ zq_L223, decode prog_13_method_81_code q.1 = .ok q.2 := by decide +kernel
theorem zq_d224 : ∀ q ∈ zq_L224, decode prog_13_method_85_code q.1 = .ok q.2 := by decide +kernel
theorem zq_d225 : ∀ q ∈ zq_L225, decode prog_13_method_84_code q.1 = .ok q.2 := by decide +kernel
theorem zq_d226 : ∀ q ∈ zq_L226, decode prog_13_method_83_code q.1 = .ok q.2 := by decide +kernel
theorem zq_d227 : ∀ q ∈ zq_L227, decode prog_13_method_82_code q.1 = .ok q.2 := by decide +kernel
theorem zq_d228 : ∀ q ∈ zq_L228, decode prog_13_method_47_code q.1 = .ok q.2 := by decide +kernel
theorem zq_d229 : ∀ q ∈ zq_L229, decode prog_13_method_86_code q.1 = .ok q.2 := by decide +kernel
theorem zq_d230 : ∀ q ∈ zq_L230, decode prog_13_method_87_code q.1 = .ok q.2 := by decide +kernel
theorem zq_d231 : ∀ q ∈ zq_L231, decode prog_13_method_90_code q.1 = .ok q.2 := by decide +kernel
theorem zq_d232 : ∀ q ∈ zq_L232, decode prog_13_method_88_code q.1 = .ok q.2 := by decide +kernel
theorem zq_d233 : ∀ q ∈ zq_L233, decode prog_13_method_89_code q.1 = .ok q.2 := by decide +kernel
theorem zq_d234 : ∀ q ∈ zq_L234, decode prog_13_method_95_code q.1 = .ok q.2 := by decide +kernel
theorem zq_d235 : ∀ q ∈ zq_L235, decode prog_13_method_94_code q.1 = .ok q.2 := by decide +kernel
theorem zq_d236 : ∀ q ∈ zq_L236, decode prog_13_method_92_code q.1 = .ok q.2 := by decide +kernel
theorem zq_d237 : ∀ q ∈ zq_L237, decode prog_13_method_91_code q.1 = .ok q.2 := by decide +kernel
theorem zq_d238 : ∀ q ∈ zq_L238, decode prog_13_method_93_code q.1 = .ok q.2 := by decide +kernel
theorem zq_d239 : ∀ q ∈ zq_L239, decode prog_13_method_96_code q.1 = .ok q.2 := by decide +kernel
theorem zq_d240 : ∀ q ∈ zq_L240, decode prog_13_method_100_code q.1 = .ok q.2 := by decide +kernel
theorem zq_d241 : ∀ q ∈ zq_L241, decode prog_13_method_99_code q.1 = .ok q.2 := by decide +kernel
theorem zq_d242 : ∀ q ∈ zq_L242, decode prog_13_method_98_code q.1 = .ok q.2 := by decide +kernel
theorem zq_d243 : ∀ q ∈ zq_L243, decode prog_13_method_97_code q.1 = .ok q.2 := by decide +kernel
theorem zq_d244 : ∀ q ∈ zq_L244, decode prog_13_method_103_code q.1 = .ok q.2 := by decide +kernel
theorem zq_d245 : ∀ q ∈ zq_L245, decode prog_13_method_101_code q.1 = .ok q.2 := by decide +kernel
theorem zq_d246 : ∀ q ∈ zq_L246, decode prog_13_method_102_code q.1 = .ok q.2 := by decide +kernel
theorem zq_d247 : ∀ q ∈ zq_L247, decode prog_13_method_104_code q.1 = .ok q.2 := by decide +kernel
theorem zq_d248 : ∀ q ∈ zq_L248, decode prog_13_method_108_code q.1 = .ok q.2 := by decide +kernel
theorem zq_d249 : ∀ q ∈ zq_L249, decode prog_13_method_105_code q.1 = .ok q.2 := by decide +kernel
theorem zq_d250 : ∀ q ∈ zq_L250, decode prog_13_method_106_code q.1 = .ok q.2 := by decide +kernel
theorem zq_d251 : ∀ q ∈ zq_L251, decode prog_13_method_107_code q.1 = .ok q.2 := by decide +kernel
theorem zq_d252 : ∀ q ∈ zq_L252, decode prog_13_method_109_code q.1 = .ok q.2 := by decide +kernel
theorem zq_d253 : ∀ q ∈ zq_L253, decode prog_13_method_110_code q.1 = .ok q.2 := by decide +kernel
theorem zq_d254 : ∀ q ∈ zq_L254, decode prog_13_method_113_code q.1 = .ok q.2 := by decide +kernel
theorem zq_d255 : ∀ q ∈ zq_L255, decode prog_13_method_112_code q.1 = .ok q.2 := by decide +kernel
theorem zq_d256 : ∀ q ∈ zq_L256, decode prog_13_method_111_code q.1 = .ok q.2 := by decide +kernel
theorem zq_d257 : ∀ q ∈ zq_L257, decode prog_13_method_116_code q.1 = .ok q.2 := by decide +kernel
theorem zq_d258 : ∀ q ∈ zq_L258, decode prog_13_method_115_code q.1 = .ok q.2 := by decide +kernel
theorem zq_d259 : ∀ q ∈ zq_L259, decode prog_13_method_114_code q.1 = .ok q.2 := by decide +kernel
theorem zq_d260 : ∀ q ∈ zq_L260, decode prog_13_method_118_code q.1 = .ok q.2 := by decide +kernel
theorem zq_d261 : ∀ q ∈ zq_L261, decode prog_13_method_117_code q.1 = .ok q.2 := by decide +kernel
theorem zq_d262 : ∀ q ∈ zq_L262, decode prog_13_method_119_code q.1 = .ok q.2 := by decide +kernel
theorem zq_d263 : ∀ q ∈ zq_L263, decode prog_13_method_120_code q.1 = .ok q.2 := by decide +kernel
theorem zq_d264 : ∀ q ∈ zq_L264, decode prog_13_method_121_code q.1 = .ok q.2 := by decide +kernel
end
section
def zq_Lw0 : List (Nat × Instr × Nat) := [(0, .new 8, 3), (3, .dup, 1), (4, .invokespecial 15, 3), (7, .astore_n 1, 1), (8, .new 16, 3), (11, .dup, 1), (12, .invokespecial 18, 3), (15, .astore_n 2, 1), (16, .iconst 1, 1), (17, .newarray .long, 2), (19, .astore_n 3, 1), (20, .iconst 0, 1), (21, .istore 4, 2), (23, .iload 4, 2), (25, .aload_n 0, 1), (26, .arraylength, 1), (27, .bipush 7, 2), (29, .isub, 1), (30, .if_icmp .gt 1225, 3), (33, .aload_n 0, 1), (34, .iload 4, 2), (36, .iaload, 1), (37, .bipush 31, 2), (39, .iand, 1), (40, .tableswitch 1209 0 31 #[144, 291, 304, 317, 354, 391, 428, 441, 466, 515, 540, 565, 578, 603, 616, 641, 654, 667, 704, 729, 742, 767, 804, 841, 878, 927, 952, 977, 1002, 1082, 1131, 1184], 144), (184, .aload_n 1, 1), (185, .aload_n 0, 1), (186, .iload 4, 2), (188, .iconst 1, 1), (189, .iadd, 1), (190, .iaload, 1), (191, .i2l, 1), (192, .bipush 32, 2), (194, .lshl, 1), (195, .aload_n 0, 1), (196, .iload 4, 2), (198, .iconst 2, 1), (199, .iadd, 1), (200, .iaload, 1), (201, .i2l, 1), (202, .ldc2_w 19, 3), (205, .land, 1), (206, .lor, 1), (207, .aload_n 0, 1), (208, .iload 4, 2), (210, .iconst 3, 1), (211, .iadd, 1), (212, .iaload, 1)]
def zq_Lw1 : List (Nat × Instr × Nat) := [(213, .i2l, 1), (214, .bipush 32, 2), (216, .lshl, 1), (217, .aload_n 0, 1), (218, .iload 4, 2), (220, .iconst 4, 1), (221, .iadd, 1), (222, .iaload, 1), (223, .i2l, 1), (224, .ldc2_w 19, 3), (227, .land, 1), (228, .lor, 1), (229, .aload_n 0, 1), (230, .iload 4, 2), (232, .iconst 5, 1), (233, .iadd, 1), (234, .iaload, 1), (235, .i2l, 1), (236, .bipush 32, 2), (238, .lshl, 1), (239, .aload_n 0, 1), (240, .iload 4, 2), (242, .bipush 6, 2), (244, .iadd, 1), (245, .iaload, 1), (246, .i2l, 1), (247, .ldc2_w 19, 3), (250, .land, 1), (251, .lor, 1), (252, .invokevirtual 21, 3), (255, .aload_n 2, 1), (256, .aload_n 0, 1), (257, .iload 4, 2), (259, .iconst 1, 1), (260, .iadd, 1), (261, .iaload, 1), (262, .i2l, 1), (263, .bipush 32, 2), (265, .lshl, 1), (266, .aload_n 0, 1), (267, .iload 4, 2), (269, .iconst 2, 1), (270, .iadd, 1), (271, .iaload, 1), (272, .i2l, 1), (273, .ldc2_w 19, 3), (276, .land, 1), (277, .lor, 1)]
def zq_Lw2 : List (Nat × Instr × Nat) := [(278, .aload_n 0, 1), (279, .iload 4, 2), (281, .iconst 3, 1), (282, .iadd, 1), (283, .iaload, 1), (284, .i2l, 1), (285, .bipush 32, 2), (287, .lshl, 1), (288, .aload_n 0, 1), (289, .iload 4, 2), (291, .iconst 4, 1), (292, .iadd, 1), (293, .iaload, 1), (294, .i2l, 1), (295, .ldc2_w 19, 3), (298, .land, 1), (299, .lor, 1), (300, .aload_n 0, 1), (301, .iload 4, 2), (303, .iconst 5, 1), (304, .iadd, 1), (305, .iaload, 1), (306, .i2l, 1), (307, .bipush 32, 2), (309, .lshl, 1), (310, .aload_n 0, 1), (311, .iload 4, 2), (313, .bipush 6, 2), (315, .iadd, 1), (316, .iaload, 1), (317, .i2l, 1), (318, .ldc2_w 19, 3), (321, .land, 1), (322, .lor, 1), (323, .invokevirtual 25, 3), (326, .if_icmp .eq 923, 3), (329, .iconst 0, 1), (330, .ireturn, 1), (331, .aload_n 1, 1), (332, .invokevirtual 26, 3), (335, .aload_n 2, 1), (336, .invokevirtual 30, 3), (339, .if_icmp .eq 910, 3), (342, .iconst 0, 1), (343, .ireturn, 1), (344, .aload_n 1, 1), (345, .invokevirtual 31, 3), (348, .aload_n 2, 1)]
def zq_Lw3 : List (Nat × Instr × Nat) := [(349, .invokevirtual 34, 3), (352, .if_icmp .eq 897, 3), (355, .iconst 0, 1), (356, .ireturn, 1), (357, .aload_n 1, 1), (358, .aload_n 0, 1), (359, .iload 4, 2), (361, .iconst 1, 1), (362, .iadd, 1), (363, .iaload, 1), (364, .aload_n 0, 1), (365, .iload 4, 2), (367, .iconst 2, 1), (368, .iadd, 1), (369, .iaload, 1), (370, .invokevirtual 35, 3), (373, .aload_n 2, 1), (374, .aload_n 0, 1), (375, .iload 4, 2), (377, .iconst 1, 1), (378, .iadd, 1), (379, .iaload, 1), (380, .aload_n 0, 1), (381, .iload 4, 2), (383, .iconst 2, 1), (384, .iadd, 1), (385, .iaload, 1), (386, .invokevirtual 39, 3), (389, .if_icmp .eq 860, 3), (392, .iconst 0, 1), (393, .ireturn, 1), (394, .aload_n 1, 1), (395, .aload_n 0, 1), (396, .iload 4, 2), (398, .iconst 1, 1), (399, .iadd, 1), (400, .iaload, 1), (401, .aload_n 0, 1), (402, .iload 4, 2), (404, .iconst 2, 1), (405, .iadd, 1), (406, .iaload, 1), (407, .invokevirtual 40, 3), (410, .aload_n 2, 1), (411, .aload_n 0, 1), (412, .iload 4, 2), (414, .iconst 1, 1), (415, .iadd, 1)]
def zq_Lw4 : List (Nat × Instr × Nat) := [(416, .iaload, 1), (417, .aload_n 0, 1), (418, .iload 4, 2), (420, .iconst 2, 1), (421, .iadd, 1), (422, .iaload, 1), (423, .invokevirtual 43, 3), (426, .if_icmp .eq 823, 3), (429, .iconst 0, 1), (430, .ireturn, 1), (431, .aload_n 1, 1), (432, .aload_n 0, 1), (433, .iload 4, 2), (435, .iconst 1, 1), (436, .iadd, 1), (437, .iaload, 1), (438, .aload_n 0, 1), (439, .iload 4, 2), (441, .iconst 2, 1), (442, .iadd, 1), (443, .iaload, 1), (444, .invokevirtual 44, 3), (447, .aload_n 2, 1), (448, .aload_n 0, 1), (449, .iload 4, 2), (451, .iconst 1, 1), (452, .iadd, 1), (453, .iaload, 1), (454, .aload_n 0, 1), (455, .iload 4, 2), (457, .iconst 2, 1), (458, .iadd, 1), (459, .iaload, 1), (460, .invokevirtual 47, 3), (463, .if_icmp .eq 786, 3), (466, .iconst 0, 1), (467, .ireturn, 1), (468, .aload_n 1, 1), (469, .invokevirtual 48, 3), (472, .aload_n 2, 1), (473, .invokevirtual 51, 3), (476, .if_icmp .eq 773, 3), (479, .iconst 0, 1), (480, .ireturn, 1), (481, .aload_n 1, 1), (482, .aload_n 0, 1), (483, .iload 4, 2), (485, .iconst 1, 1)]
def zq_Lw5 : List (Nat × Instr × Nat) := [(486, .iadd, 1), (487, .iaload, 1), (488, .invokevirtual 52, 3), (491, .aload_n 2, 1), (492, .aload_n 0, 1), (493, .iload 4, 2), (495, .iconst 1, 1), (496, .iadd, 1), (497, .iaload, 1), (498, .invokevirtual 56, 3), (501, .if_icmp .eq 748, 3), (504, .iconst 0, 1), (505, .ireturn, 1), (506, .aload_n 1, 1), (507, .aload_n 0, 1), (508, .iload 4, 2), (510, .iconst 1, 1), (511, .iadd, 1), (512, .iaload, 1), (513, .aload_n 0, 1), (514, .iload 4, 2), (516, .iconst 2, 1), (517, .iadd, 1), (518, .iaload, 1), (519, .aload_n 0, 1), (520, .iload 4, 2), (522, .iconst 3, 1), (523, .iadd, 1), (524, .iaload, 1), (525, .invokevirtual 57, 3), (528, .aload_n 2, 1), (529, .aload_n 0, 1), (530, .iload 4, 2), (532, .iconst 1, 1), (533, .iadd, 1), (534, .iaload, 1), (535, .aload_n 0, 1), (536, .iload 4, 2), (538, .iconst 2, 1), (539, .iadd, 1), (540, .iaload, 1), (541, .aload_n 0, 1), (542, .iload 4, 2), (544, .iconst 3, 1), (545, .iadd, 1), (546, .iaload, 1), (547, .invokevirtual 61, 3), (550, .if_icmp .eq 699, 3)]
def zq_Lw6 : List (Nat × Instr × Nat) := [(553, .iconst 0, 1), (554, .ireturn, 1), (555, .aload_n 1, 1), (556, .aload_n 0, 1), (557, .iload 4, 2), (559, .iconst 1, 1), (560, .iadd, 1), (561, .iaload, 1), (562, .invokevirtual 62, 3), (565, .aload_n 2, 1), (566, .aload_n 0, 1), (567, .iload 4, 2), (569, .iconst 1, 1), (570, .iadd, 1), (571, .iaload, 1), (572, .invokevirtual 65, 3), (575, .if_icmp .eq 674, 3), (578, .iconst 0, 1), (579, .ireturn, 1), (580, .aload_n 1, 1), (581, .aload_n 0, 1), (582, .iload 4, 2), (584, .iconst 1, 1), (585, .iadd, 1), (586, .iaload, 1), (587, .invokevirtual 66, 3), (590, .aload_n 2, 1), (591, .aload_n 0, 1), (592, .iload 4, 2), (594, .iconst 1, 1), (595, .iadd, 1), (596, .iaload, 1), (597, .invokevirtual 70, 3), (600, .if_icmp .eq 649, 3), (603, .iconst 0, 1), (604, .ireturn, 1), (605, .aload_n 1, 1), (606, .invokevirtual 71, 3), (609, .aload_n 2, 1), (610, .invokevirtual 75, 3), (613, .if_icmp .eq 636, 3), (616, .iconst 0, 1), (617, .ireturn, 1), (618, .aload_n 1, 1), (619, .aload_n 0, 1), (620, .iload 4, 2), (622, .iconst 1, 1), (623, .iadd, 1)]
def zq_Lw7 : List (Nat × Instr × Nat) := [(624, .iaload, 1), (625, .invokevirtual 76, 3), (628, .aload_n 2, 1), (629, .aload_n 0, 1), (630, .iload 4, 2), (632, .iconst 1, 1), (633, .iadd, 1), (634, .iaload, 1), (635, .invokevirtual 79, 3), (638, .if_icmp .eq 611, 3), (641, .iconst 0, 1), (642, .ireturn, 1), (643, .aload_n 1, 1), (644, .invokevirtual 80, 3), (647, .aload_n 2, 1), (648, .invokevirtual 83, 3), (651, .if_icmp .eq 598, 3), (654, .iconst 0, 1), (655, .ireturn, 1), (656, .aload_n 1, 1), (657, .aload_n 0, 1), (658, .iload 4, 2), (660, .iconst 1, 1), (661, .iadd, 1), (662, .iaload, 1), (663, .invokevirtual 84, 3), (666, .aload_n 2, 1), (667, .aload_n 0, 1), (668, .iload 4, 2), (670, .iconst 1, 1), (671, .iadd, 1), (672, .iaload, 1), (673, .invokevirtual 87, 3), (676, .if_icmp .eq 573, 3), (679, .iconst 0, 1), (680, .ireturn, 1), (681, .aload_n 1, 1), (682, .invokevirtual 88, 3), (685, .aload_n 2, 1), (686, .invokevirtual 91, 3), (689, .if_icmp .eq 560, 3), (692, .iconst 0, 1), (693, .ireturn, 1), (694, .aload_n 1, 1), (695, .invokevirtual 92, 3), (698, .aload_n 2, 1), (699, .invokevirtual 95, 3), (702, .if_icmp .eq 547, 3)]
def zq_Lw8 : List (Nat × Instr × Nat) := [(705, .iconst 0, 1), (706, .ireturn, 1), (707, .aload_n 1, 1), (708, .aload_n 0, 1), (709, .iload 4, 2), (711, .iconst 1, 1), (712, .iadd, 1), (713, .iaload, 1), (714, .aload_n 0, 1), (715, .iload 4, 2), (717, .iconst 2, 1), (718, .iadd, 1), (719, .iaload, 1), (720, .invokevirtual 96, 3), (723, .aload_n 2, 1), (724, .aload_n 0, 1), (725, .iload 4, 2), (727, .iconst 1, 1), (728, .iadd, 1), (729, .iaload, 1), (730, .aload_n 0, 1), (731, .iload 4, 2), (733, .iconst 2, 1), (734, .iadd, 1), (735, .iaload, 1), (736, .invokevirtual 99, 3), (739, .if_icmp .eq 510, 3), (742, .iconst 0, 1), (743, .ireturn, 1), (744, .aload_n 1, 1), (745, .aload_n 0, 1), (746, .iload 4, 2), (748, .iconst 1, 1), (749, .iadd, 1), (750, .iaload, 1), (751, .invokevirtual 100, 3), (754, .aload_n 2, 1), (755, .aload_n 0, 1), (756, .iload 4, 2), (758, .iconst 1, 1), (759, .iadd, 1), (760, .iaload, 1), (761, .invokevirtual 103, 3), (764, .if_icmp .eq 485, 3), (767, .iconst 0, 1), (768, .ireturn, 1), (769, .aload_n 1, 1), (770, .invokevirtual 104, 3)]
def zq_Lw9 : List (Nat × Instr × Nat) := [(773, .aload_n 2, 1), (774, .invokevirtual 107, 3), (777, .if_icmp .eq 472, 3), (780, .iconst 0, 1), (781, .ireturn, 1), (782, .aload_n 1, 1), (783, .aload_n 0, 1), (784, .iload 4, 2), (786, .iconst 1, 1), (787, .iadd, 1), (788, .iaload, 1), (789, .invokevirtual 108, 3), (792, .aload_n 2, 1), (793, .aload_n 0, 1), (794, .iload 4, 2), (796, .iconst 1, 1), (797, .iadd, 1), (798, .iaload, 1), (799, .invokevirtual 111, 3), (802, .if_icmp .eq 447, 3), (805, .iconst 0, 1), (806, .ireturn, 1), (807, .aload_n 1, 1), (808, .aload_n 0, 1), (809, .iload 4, 2), (811, .iconst 1, 1), (812, .iadd, 1), (813, .iaload, 1), (814, .aload_n 0, 1), (815, .iload 4, 2), (817, .iconst 2, 1), (818, .iadd, 1), (819, .iaload, 1), (820, .invokevirtual 112, 3), (823, .aload_n 2, 1), (824, .aload_n 0, 1), (825, .iload 4, 2), (827, .iconst 1, 1), (828, .iadd, 1), (829, .iaload, 1), (830, .aload_n 0, 1), (831, .iload 4, 2), (833, .iconst 2, 1), (834, .iadd, 1), (835, .iaload, 1), (836, .invokevirtual 115, 3), (839, .if_icmp .eq 410, 3), (842, .iconst 0, 1)]
def zq_Lw10 : List (Nat × Instr × Nat) := [(843, .ireturn, 1), (844, .aload_n 1, 1), (845, .aload_n 0, 1), (846, .iload 4, 2), (848, .iconst 1, 1), (849, .iadd, 1), (850, .iaload, 1), (851, .aload_n 0, 1), (852, .iload 4, 2), (854, .iconst 2, 1), (855, .iadd, 1), (856, .iaload, 1), (857, .invokevirtual 116, 3), (860, .aload_n 2, 1), (861, .aload_n 0, 1), (862, .iload 4, 2), (864, .iconst 1, 1), (865, .iadd, 1), (866, .iaload, 1), (867, .aload_n 0, 1), (868, .iload 4, 2), (870, .iconst 2, 1), (871, .iadd, 1), (872, .iaload, 1), (873, .invokevirtual 120, 3), (876, .if_icmp .eq 373, 3), (879, .iconst 0, 1), (880, .ireturn, 1), (881, .aload_n 1, 1), (882, .aload_n 0, 1), (883, .iload 4, 2), (885, .iconst 1, 1), (886, .iadd, 1), (887, .iaload, 1), (888, .aload_n 0, 1), (889, .iload 4, 2), (891, .iconst 2, 1), (892, .iadd, 1), (893, .iaload, 1), (894, .invokevirtual 121, 3), (897, .aload_n 2, 1), (898, .aload_n 0, 1), (899, .iload 4, 2), (901, .iconst 1, 1), (902, .iadd, 1), (903, .iaload, 1), (904, .aload_n 0, 1), (905, .iload 4, 2)]
def zq_Lw11 : List (Nat × Instr × Nat) := [(907, .iconst 2, 1), (908, .iadd, 1), (909, .iaload, 1), (910, .invokevirtual 124, 3), (913, .if_icmp .eq 336, 3), (916, .iconst 0, 1), (917, .ireturn, 1), (918, .aload_n 1, 1), (919, .aload_n 0, 1), (920, .iload 4, 2), (922, .iconst 1, 1), (923, .iadd, 1), (924, .iaload, 1), (925, .aload_n 0, 1), (926, .iload 4, 2), (928, .iconst 2, 1), (929, .iadd, 1), (930, .iaload, 1), (931, .aload_n 0, 1), (932, .iload 4, 2), (934, .iconst 3, 1), (935, .iadd, 1), (936, .iaload, 1), (937, .invokevirtual 125, 3), (940, .aload_n 2, 1), (941, .aload_n 0, 1), (942, .iload 4, 2), (944, .iconst 1, 1), (945, .iadd, 1), (946, .iaload, 1), (947, .aload_n 0, 1), (948, .iload 4, 2), (950, .iconst 2, 1), (951, .iadd, 1), (952, .iaload, 1), (953, .aload_n 0, 1), (954, .iload 4, 2), (956, .iconst 3, 1), (957, .iadd, 1), (958, .iaload, 1), (959, .invokevirtual 128, 3), (962, .if_icmp .eq 287, 3), (965, .iconst 0, 1), (966, .ireturn, 1), (967, .aload_n 1, 1), (968, .aload_n 0, 1), (969, .iload 4, 2), (971, .iconst 1, 1)]
def zq_Lw12 : List (Nat × Instr × Nat) := [(972, .iadd, 1), (973, .iaload, 1), (974, .invokevirtual 129, 3), (977, .aload_n 2, 1), (978, .aload_n 0, 1), (979, .iload 4, 2), (981, .iconst 1, 1), (982, .iadd, 1), (983, .iaload, 1), (984, .invokevirtual 132, 3), (987, .if_icmp .eq 262, 3), (990, .iconst 0, 1), (991, .ireturn, 1), (992, .aload_n 1, 1), (993, .aload_n 0, 1), (994, .iload 4, 2), (996, .iconst 1, 1), (997, .iadd, 1), (998, .iaload, 1), (999, .invokevirtual 133, 3), (1002, .aload_n 2, 1), (1003, .aload_n 0, 1), (1004, .iload 4, 2), (1006, .iconst 1, 1), (1007, .iadd, 1), (1008, .iaload, 1), (1009, .invokevirtual 136, 3), (1012, .if_icmp .eq 237, 3), (1015, .iconst 0, 1), (1016, .ireturn, 1), (1017, .aload_n 1, 1), (1018, .aload_n 0, 1), (1019, .iload 4, 2), (1021, .iconst 1, 1), (1022, .iadd, 1), (1023, .iaload, 1), (1024, .invokevirtual 137, 3), (1027, .aload_n 2, 1), (1028, .aload_n 0, 1), (1029, .iload 4, 2), (1031, .iconst 1, 1), (1032, .iadd, 1), (1033, .iaload, 1), (1034, .invokevirtual 140, 3), (1037, .if_icmp .eq 212, 3), (1040, .iconst 0, 1), (1041, .ireturn, 1), (1042, .aload_n 1, 1)]
def zq_Lw13 : List (Nat × Instr × Nat) := [(1043, .aload_n 0, 1), (1044, .iload 4, 2), (1046, .iconst 1, 1), (1047, .iadd, 1), (1048, .iaload, 1), (1049, .aload_n 0, 1), (1050, .iload 4, 2), (1052, .iconst 2, 1), (1053, .iadd, 1), (1054, .iaload, 1), (1055, .aload_n 0, 1), (1056, .iload 4, 2), (1058, .iconst 3, 1), (1059, .iadd, 1), (1060, .iaload, 1), (1061, .aload_n 3, 1), (1062, .invokestatic 141, 3), (1065, .istore 5, 2), (1067, .aload_n 2, 1), (1068, .aload_n 0, 1), (1069, .iload 4, 2), (1071, .iconst 1, 1), (1072, .iadd, 1), (1073, .iaload, 1), (1074, .aload_n 0, 1), (1075, .iload 4, 2), (1077, .iconst 2, 1), (1078, .iadd, 1), (1079, .iaload, 1), (1080, .aload_n 0, 1), (1081, .iload 4, 2), (1083, .iconst 3, 1), (1084, .iadd, 1), (1085, .iaload, 1), (1086, .invokevirtual 146, 3), (1089, .istore 6, 2), (1091, .aload_n 2, 1), (1092, .invokevirtual 147, 3), (1095, .iload 5, 2), (1097, .if_icmp .eq 5, 3), (1100, .iconst 0, 1), (1101, .ireturn, 1), (1102, .iload 5, 2), (1104, .ifCond .ne 15, 3), (1107, .aload_n 3, 1), (1108, .iconst 0, 1), (1109, .laload, 1), (1110, .iload 6, 2)]
def zq_Lw14 : List (Nat × Instr × Nat) := [(1112, .i2l, 1), (1113, .lcmp, 1), (1114, .ifCond .eq 5, 3), (1117, .iconst 0, 1), (1118, .ireturn, 1), (1119, .goto 130, 3), (1122, .aload_n 1, 1), (1123, .aload_n 0, 1), (1124, .iload 4, 2), (1126, .iconst 1, 1), (1127, .iadd, 1), (1128, .iaload, 1), (1129, .aload_n 0, 1), (1130, .iload 4, 2), (1132, .iconst 2, 1), (1133, .iadd, 1), (1134, .iaload, 1), (1135, .aload_n 0, 1), (1136, .iload 4, 2), (1138, .iconst 3, 1), (1139, .iadd, 1), (1140, .iaload, 1), (1141, .invokevirtual 150, 3), (1144, .aload_n 2, 1), (1145, .aload_n 0, 1), (1146, .iload 4, 2), (1148, .iconst 1, 1), (1149, .iadd, 1), (1150, .iaload, 1), (1151, .aload_n 0, 1), (1152, .iload 4, 2), (1154, .iconst 2, 1), (1155, .iadd, 1), (1156, .iaload, 1), (1157, .aload_n 0, 1), (1158, .iload 4, 2), (1160, .iconst 3, 1), (1161, .iadd, 1), (1162, .iaload, 1), (1163, .invokevirtual 153, 3), (1166, .if_icmp .eq 83, 3), (1169, .iconst 0, 1), (1170, .ireturn, 1), (1171, .aload_n 1, 1), (1172, .aload_n 0, 1), (1173, .iload 4, 2), (1175, .iconst 1, 1), (1176, .iadd, 1)]
def zq_Lw15 : List (Nat × Instr × Nat) := [(1177, .iaload, 1), (1178, .aload_n 0, 1), (1179, .iload 4, 2), (1181, .iconst 2, 1), (1182, .iadd, 1), (1183, .iaload, 1), (1184, .ifCond .eq 7, 3), (1187, .iconst 1, 1), (1188, .goto 4, 3), (1191, .iconst 0, 1), (1192, .invokevirtual 154, 3), (1195, .aload_n 2, 1), (1196, .aload_n 0, 1), (1197, .iload 4, 2), (1199, .iconst 1, 1), (1200, .iadd, 1), (1201, .iaload, 1), (1202, .aload_n 0, 1), (1203, .iload 4, 2), (1205, .iconst 2, 1), (1206, .iadd, 1), (1207, .iaload, 1), (1208, .ifCond .eq 7, 3), (1211, .iconst 1, 1), (1212, .goto 4, 3), (1215, .iconst 0, 1), (1216, .invokevirtual 158, 3), (1219, .if_icmp .eq 30, 3), (1222, .iconst 0, 1), (1223, .ireturn, 1), (1224, .aload_n 1, 1), (1225, .aload_n 0, 1), (1226, .iload 4, 2), (1228, .iconst 1, 1), (1229, .iadd, 1), (1230, .iaload, 1), (1231, .invokevirtual 159, 3), (1234, .aload_n 2, 1), (1235, .aload_n 0, 1), (1236, .iload 4, 2), (1238, .iconst 1, 1), (1239, .iadd, 1), (1240, .iaload, 1), (1241, .invokevirtual 162, 3), (1244, .if_icmp .eq 5, 3), (1247, .iconst 0, 1), (1248, .ireturn, 1), (1249, .iinc 4 7, 3)]
def zq_Lw16 : List (Nat × Instr × Nat) := [(1252, .goto (-1229), 3), (1255, .iconst 1, 1), (1256, .ireturn, 1)]
theorem zq_dw0 : ∀ q ∈ zq_Lw0, decode code q.1 = .ok q.2 := by decide +kernel
theorem zq_dw1 : ∀ q ∈ zq_Lw1, decode code q.1 = .ok q.2 := by decide +kernel
theorem zq_dw2 : ∀ q ∈ zq_Lw2, decode code q.1 = .ok q.2 := by decide +kernel
theorem zq_dw3 : ∀ q ∈ zq_Lw3, decode code q.1 = .ok q.2 := by decide +kernel
theorem zq_dw4 : ∀ q ∈ zq_Lw4, decode code q.1 = .ok q.2 := by decide +kernel
theorem zq_dw5 : ∀ q ∈ zq_Lw5, decode code q.1 = .ok q.2 := by decide +kernel
theorem zq_dw6 : ∀ q ∈ zq_Lw6, decode code q.1 = .ok q.2 := by decide +kernel
theorem zq_dw7 : ∀ q ∈ zq_Lw7, decode code q.1 = .ok q.2 := by decide +kernel
theorem zq_dw8 : ∀ q ∈ zq_Lw8, decode code q.1 = .ok q.2 := by decide +kernel
theorem zq_dw9 : ∀ q ∈ zq_Lw9, decode code q.1 = .ok q.2 := by decide +kernel
theorem zq_dw10 : ∀ q ∈ zq_Lw10, decode code q.1 = .ok q.2 := by decide +kernel
theorem zq_dw11 : ∀ q ∈ zq_Lw11, decode code q.1 = .ok q.2 := by decide +kernel
theorem zq_dw12 : ∀ q ∈ zq_Lw12, decode code q.1 = .ok q.2 := by decide +kernel
theorem zq_dw13 : ∀ q ∈ zq_Lw13, decode code q.1 = .ok q.2 := by decide +kernel
theorem zq_dw14 : ∀ q ∈ zq_Lw14, decode code q.1 = .ok q.2 := by decide +kernel
theorem zq_dw15 : ∀ q ∈ zq_Lw15, decode code q.1 = .ok q.2 := by decide +kernel
theorem zq_dw16 : ∀ q ∈ zq_Lw16, decode code q.1 = .ok q.2 := by decide +kernel
def zq_L265 : List (Nat × Instr × Nat) := zq_Lw0 ++ (zq_Lw1 ++ (zq_Lw2 ++ (zq_Lw3 ++ (zq_Lw4 ++ (zq_Lw5 ++ (zq_Lw6 ++ (zq_Lw7 ++ (zq_Lw8 ++ (zq_Lw9 ++ (zq_Lw10 ++ (zq_Lw11 ++ (zq_Lw12 ++ (zq_Lw13 ++ (zq_Lw14 ++ (zq_Lw15 ++ (zq_Lw16))))))))))))))))
theorem zq_dapp {cc : ByteArray} {a b : List (Nat × Instr × Nat)} (ha : ∀ q ∈ a, decode cc q.1 = .ok q.2) (hb : ∀ q ∈ b, decode cc q.1 = .ok q.2) : ∀ q ∈ a ++ b, decode cc q.1 = .ok q.2 := fun q h => (List.mem_append.mp h).elim (ha q) (hb q)
theorem zq_d265 : ∀ q ∈ zq_L265, decode code q.1 = .ok q.2 := zq_dapp zq_dw0 (zq_dapp zq_dw1 (zq_dapp zq_dw2 (zq_dapp zq_dw3 (zq_dapp zq_dw4 (zq_dapp zq_dw5 (zq_dapp zq_dw6 (zq_dapp zq_dw7 (zq_dapp zq_dw8 (zq_dapp zq_dw9 (zq_dapp zq_dw10 (zq_dapp zq_dw11 (zq_dapp zq_dw12 (zq_dapp zq_dw13 (zq_dapp zq_dw14 (zq_dapp zq_dw15 (zq_dw16))))))))))))))))
def zq_Lg0 : List (List (Nat × Instr × Nat)) := [zq_L0, zq_L1, zq_L2, zq_L3, zq_L4, zq_L5, zq_L6, zq_L7, zq_L8, zq_L9, zq_L10, zq_L11, zq_L12, zq_L13, zq_L14, zq_L15]
def zq_Lg1 : List (List (Nat × Instr × Nat)) := [zq_L16, zq_L17, zq_L18, zq_L19, zq_L20, zq_L21, zq_L22, zq_L23, zq_L24, zq_L25, zq_L26, zq_L27, zq_L28, zq_L29, zq_L30, zq_L31]
def zq_Lg2 : List (List (Nat × Instr × Nat)) := [zq_L32, zq_L33, zq_L34, zq_L35, zq_L36, zq_L37, zq_L38, zq_L39, zq_L40, zq_L41, zq_L42, zq_L43, zq_L44, zq_L45, zq_L46, zq_L47]
def zq_Lg3 : List (List (Nat × Instr × Nat)) := [zq_L48, zq_L49, zq_L50, zq_L51, zq_L52, zq_L53, zq_L54, zq_L55, zq_L56, zq_L57, zq_L58, zq_L59, zq_L60, zq_L61, zq_L62, zq_L63]
def zq_Lg4 : List (List (Nat × Instr × Nat)) := [zq_L64, zq_L65, zq_L66, zq_L67, zq_L68, zq_L69, zq_L70, zq_L71, zq_L72, zq_L73, zq_L74, zq_L75, zq_L76, zq_L77, zq_L78, zq_L79]
def zq_Lg5 : List (List (Nat × Instr × Nat)) := [zq_L80, zq_L81, zq_L82, zq_L83, zq_L84, zq_L85, zq_L86, zq_L87, zq_L88, zq_L89, zq_L90, zq_L91, zq_L92, zq_L93, zq_L94, zq_L95]
def zq_Lg6 : List (List (Nat × Instr × Nat)) := [zq_L96, zq_L97, zq_L98, zq_L99, zq_L100, zq_L101, zq_L102, zq_L103, zq_L104, zq_L105, zq_L106, zq_L107, zq_L108, zq_L109, zq_L110, zq_L111]
def zq_Lg7 : List (List (Nat × Instr × Nat)) := [zq_L112, zq_L113, zq_L114, zq_L115, zq_L116, zq_L117, zq_L118, zq_L119, zq_L120, zq_L121, zq_L122, zq_L123, zq_L124, zq_L125, zq_L126, zq_L127]
def zq_Lg8 : List (List (Nat × Instr × Nat)) := [zq_L128, zq_L129, zq_L130, zq_L131, zq_L132, zq_L133, zq_L134, zq_L135, zq_L136, zq_L137, zq_L138, zq_L139, zq_L140, zq_L141, zq_L142, zq_L143]
def zq_Lg9 : List (List (Nat × Instr × Nat)) := [zq_L144, zq_L145, zq_L146, zq_L147, zq_L148, zq_L149, zq_L150, zq_L151, zq_L152, zq_L153, zq_L154, zq_L155, zq_L156, zq_L157, zq_L158, zq_L159]
def zq_Lg10 : List (List (Nat × Instr × Nat)) := [zq_L160, zq_L161, zq_L162, zq_L163, zq_L164, zq_L165, zq_L166, zq_L167, zq_L168, zq_L169, zq_L170, zq_L171, zq_L172, zq_L173, zq_L174, zq_L175]
def zq_Lg11 : List (List (Nat × Instr × Nat)) := [zq_L176, zq_L177, zq_L178, zq_L179, zq_L180, zq_L181, zq_L182, zq_L183, zq_L184, zq_L185, zq_L186, zq_L187, zq_L188, zq_L189, zq_L190, zq_L191]
def zq_Lg12 : List (List (Nat × Instr × Nat)) := [zq_L192, zq_L193, zq_L194, zq_L195, zq_L196, zq_L197, zq_L198, zq_L199, zq_L200, zq_L201, zq_L202, zq_L203, zq_L204, zq_L205, zq_L206, zq_L207]
def zq_Lg13 : List (List (Nat × Instr × Nat)) := [zq_L208, zq_L209, zq_L210, zq_L211, zq_L212, zq_L213, zq_L214, zq_L215, zq_L216, zq_L217, zq_L218, zq_L219, zq_L220, zq_L221, zq_L222, zq_L223]
def zq_Lg14 : List (List (Nat × Instr × Nat)) := [zq_L224, zq_L225, zq_L226, zq_L227, zq_L228, zq_L229, zq_L230, zq_L231, zq_L232, zq_L233, zq_L234, zq_L235, zq_L236, zq_L237, zq_L238, zq_L239]
def zq_Lg15 : List (List (Nat × Instr × Nat)) := [zq_L240, zq_L241, zq_L242, zq_L243, zq_L244, zq_L245, zq_L246, zq_L247, zq_L248, zq_L249, zq_L250, zq_L251, zq_L252, zq_L253, zq_L254, zq_L255]
def zq_Lg16 : List (List (Nat × Instr × Nat)) := [zq_L256, zq_L257, zq_L258, zq_L259, zq_L260, zq_L261, zq_L262, zq_L263, zq_L264]
def zq_Lgs : List (List (List (Nat × Instr × Nat))) := [zq_Lg0, zq_Lg1, zq_Lg2, zq_Lg3, zq_Lg4, zq_Lg5, zq_Lg6, zq_Lg7, zq_Lg8, zq_Lg9, zq_Lg10, zq_Lg11, zq_Lg12, zq_Lg13, zq_Lg14, zq_Lg15, zq_Lg16]
/-- the code of a method; the last is the law itself -/
def zq_cd (k : Nat) : List (Nat × Instr × Nat) := if k = 265 then zq_L265 else (zq_Lgs.getD (k / 16) []).getD (k % 16) []
def zq_code (k pc : Nat) : Option (Instr × Nat) := (zq_cd k).lookup pc
end
section
def zq_fp0 : List (Nat × Nat × Nat × Nat) := [(9, 0, 2, 380), (15, 0, 3, 383), (18, 0, 4, 385), (21, 0, 5, 389), (24, 0, 6, 392), (27, 0, 7, 394), (31, 0, 8, 396), (34, 0, 9, 398), (37, 0, 10, 400), (40, 0, 11, 402), (43, 0, 12, 404), (46, 0, 13, 406), (50, 0, 14, 407), (53, 0, 15, 408), (56, 0, 16, 409), (62, 0, 17, 410), (66, 0, 0, 368), (69, 0, 1, 374), (72, 0, 18, 411), (84, 5, 2, 151), (98, 5, 3, 154), (102, 21, 0, 589), (114, 21, 1, 652), (139, 21, 14, 708), (145, 21, 16, 716), (148, 21, 17, 718), (155, 5, 5, 162), (158, 21, 7, 714), (165, 5, 4, 159), (179, 21, 2, 625), (182, 21, 3, 638), (196, 21, 4, 658), (199, 21, 5, 660), (202, 21, 6, 662)]
def zq_fp1 : List (Nat × Nat × Nat × Nat) := [(9, 1, 0, 348), (15, 1, 1, 349), (18, 1, 2, 350), (21, 1, 3, 351), (24, 1, 4, 352), (27, 1, 5, 353), (46, 5, 3, 156), (52, 21, 9, 700), (57, 21, 10, 702), (84, 5, 2, 153), (87, 21, 8, 690), (94, 5, 4, 160)]
def zq_fp2 : List (Nat × Nat × Nat × Nat) := [(9, 2, 0, 232), (15, 2, 1, 234), (18, 2, 2, 236), (21, 2, 3, 238), (25, 2, 4, 240)]
def zq_fp3 : List (Nat × Nat × Nat × Nat) := [(9, 3, 1, 328), (15, 3, 0, 327), (27, 0, 1, 378), (45, 0, 0, 372), (48, 4, 0, 198), (53, 4, 5, 210)]
def zq_fp4 : List (Nat × Nat × Nat × Nat) := [(9, 4, 0, 196), (15, 4, 1, 200), (18, 0, 0, 369), (24, 0, 1, 376), (31, 0, 12, 405), (36, 4, 2, 202), (39, 0, 3, 384), (42, 4, 3, 205), (45, 4, 4, 207), (48, 4, 5, 209), (64, 0, 2, 381), (71, 0, 4, 387), (86, 0, 5, 390)]
def zq_fp5 : List (Nat × Nat × Nat × Nat) := [(9, 5, 0, 147), (17, 5, 1, 149), (21, 5, 8, 166), (24, 5, 9, 167), (38, 5, 7, 165), (41, 5, 6, 164), (45, 5, 2, 152), (48, 5, 3, 155), (52, 5, 4, 157), (64, 20, 0, 1895), (67, 20, 1, 1896), (70, 20, 2, 1897), (84, 5, 5, 163)]
def zq_fp6 : List (Nat × Nat × Nat × Nat) := [(9, 6, 0, 304), (15, 6, 1, 306), (18, 6, 2, 307), (21, 6, 3, 308), (24, 6, 4, 309), (27, 0, 1, 375), (47, 4, 0, 197), (57, 0, 0, 371)]
def zq_fp7 : List (Nat × Nat × Nat × Nat) := [(9, 7, 1, 459), (15, 7, 2, 460), (18, 7, 3, 461), (21, 7, 4, 462), (24, 7, 0, 457), (33, 5, 2, 150), (77, 5, 5, 161), (87, 5, 4, 158), (128, 4, 2, 203)]
def zq_fp8 : List (Nat × Nat × Nat × Nat) := [(9, 8, 3, 265), (15, 8, 4, 267), (18, 8, 7, 271), (21, 8, 8, 272), (24, 8, 9, 273), (27, 8, 10, 274), (30, 8, 0, 259), (34, 8, 1, 261), (38, 8, 2, 263), (42, 8, 5, 269), (45, 8, 6, 270), (52, 0, 0, 370), (57, 0, 1, 377), (76, 0, 4, 386)]
def zq_fp9 : List (Nat × Nat × Nat × Nat) := [(10, 9, 0, 484), (19, 9, 1, 485), (23, 9, 2, 486), (29, 9, 3, 487), (36, 9, 4, 488), (43, 9, 5, 489), (50, 9, 6, 490), (54, 9, 7, 491), (58, 9, 8, 492), (61, 9, 9, 493), (65, 9, 10, 494), (72, 9, 11, 495), (76, 9, 12, 496), (82, 9, 13, 497), (86, 9, 14, 498), (97, 5, 1, 148), (108, 7, 0, 458), (109, 8, 0, 260), (113, 9, 15, 499), (116, 9, 17, 501), (126, 0, 7, 395), (133, 0, 8, 397), (136, 0, 9, 399), (139, 4, 0, 199), (149, 0, 10, 401), (152, 0, 11, 403), (155, 4, 1, 201), (194, 4, 2, 204), (205, 9, 16, 500), (216, 4, 3, 206), (219, 4, 4, 208), (222, 0, 0, 373), (228, 8, 1, 262), (231, 8, 3, 266), (234, 8, 2, 264), (246, 8, 4, 268), (252, 6, 0, 305), (255, 0, 1, 379), (269, 2, 4, 241), (272, 2, 1, 235), (279, 2, 2, 237), (291, 0, 2, 382), (294, 2, 3, 239), (297, 2, 0, 233), (322, 0, 6, 393), (325, 0, 5, 391), (335, 4, 5, 211), (356, 0, 4, 388)]
def zq_fp10 : List (Nat × Nat × Nat × Nat) := [(1, 10, 0, 1302), (11, 10, 2, 1304), (14, 10, 1, 1303), (24, 10, 4, 1306), (27, 10, 5, 1307), (30, 10, 6, 1308), (106, 10, 9, 1311), (109, 10, 10, 1312), (112, 10, 11, 1313), (115, 10, 12, 1314), (118, 10, 14, 1316), (121, 10, 15, 1317), (124, 10, 16, 1318), (127, 10, 17, 1319), (130, 10, 22, 1324), (133, 10, 23, 1325), (136, 10, 24, 1326), (139, 10, 25, 1327), (142, 10, 27, 1329), (146, 10, 28, 1330), (149, 10, 29, 1331), (152, 10, 31, 1333), (155, 10, 35, 1337), (158, 10, 36, 1338), (161, 10, 37, 1339), (164, 10, 38, 1340), (167, 10, 39, 1341), (170, 10, 43, 1345), (184, 10, 3, 1305), (203, 10, 7, 1309), (206, 10, 8, 1310), (231, 10, 19, 1321), (234, 10, 18, 1320), (252, 10, 13, 1315), (255, 10, 20, 1322), (284, 10, 21, 1323), (328, 10, 26, 1328), (374, 10, 30, 1332), (421, 10, 32, 1334), (424, 10, 34, 1336), (427, 10, 33, 1335), (463, 10, 40, 1342), (493, 10, 41, 1343), (496, 10, 42, 1344)]
def zq_fp11 : List (Nat × Nat × Nat × Nat) := []
def zq_fp12 : List (Nat × Nat × Nat × Nat) := []
def zq_fp13 : List (Nat × Nat × Nat × Nat) := []
def zq_fps : List (List (Nat × Nat × Nat × Nat)) := [zq_fp0, zq_fp1, zq_fp2, zq_fp3, zq_fp4, zq_fp5, zq_fp6, zq_fp7, zq_fp8, zq_fp9, zq_fp10, zq_fp11, zq_fp12, zq_fp13]
def zq_pp0 : List (Nat × Nat × Nat × Nat) := [(3, 1002, 341, 0), (75, 18, 560, 0), (78, 17, 556, 0), (79, 19, 565, 0), (87, 24, 585, 0), (91, 49, 720, 0), (94, 57, 758, 0), (107, 25, 591, 0), (110, 37, 644, 0), (117, 39, 654, 0), (120, 32, 664, 0), (124, 26, 595, 0), (128, 20, 599, 0), (131, 40, 665, 0), (135, 47, 704, 0), (142, 48, 710, 0), (151, 34, 631, 0), (161, 33, 627, 0), (169, 27, 600, 0), (172, 31, 615, 0), (185, 36, 640, 0), (188, 28, 604, 0), (192, 29, 608, 0), (205, 30, 611, 0), (209, 50, 724, 0), (213, 56, 754, 0), (216, 51, 728, 0), (219, 52, 733, 0), (230, 53, 738, 0), (234, 69, 817, 0), (237, 66, 821, 0), (240, 68, 813, 0), (243, 67, 844, 0), (247, 75, 845, 0), (250, 1000, 849, 0), (255, 91, 921, 0), (61, 8, 344, 1), (175, 11, 624, 1), (223, 55, 745, 1), (226, 12, 737, 1)]
def zq_pp1 : List (Nat × Nat × Nat × Nat) := [(3, 1002, 347, 0), (39, 41, 669, 0), (43, 42, 673, 0), (60, 20, 698, 0), (63, 46, 694, 0), (67, 43, 677, 0), (70, 38, 692, 0), (74, 44, 681, 0), (77, 45, 685, 0), (80, 32, 689, 0), (90, 26, 693, 0), (98, 37, 699, 0), (101, 54, 742, 0), (31, 11, 564, 1), (35, 12, 732, 1)]
def zq_pp2 : List (Nat × Nat × Nat × Nat) := [(3, 1002, 231, 0), (28, 12, 1089, 1), (32, 11, 1143, 1)]
def zq_pp3 : List (Nat × Nat × Nat × Nat) := [(3, 1002, 326, 0), (37, 81, 872, 0), (33, 11, 871, 1), (41, 12, 880, 1)]
def zq_pp4 : List (Nat × Nat × Nat × Nat) := [(3, 1002, 195, 0), (52, 69, 889, 0), (60, 71, 891, 0), (67, 74, 916, 0), (74, 90, 917, 0), (78, 88, 924, 0), (82, 92, 925, 0), (27, 11, 478, 1), (32, 12, 481, 1), (56, 35, 890, 1)]
def zq_pp5 : List (Nat × Nat × Nat × Nat) := [(3, 1002, 146, 0), (27, 20, 569, 0), (30, 21, 573, 0), (34, 22, 577, 0), (56, 23, 580, 0), (73, 38, 648, 0), (77, 26, 623, 0), (81, 32, 619, 0), (87, 35, 635, 1)]
def zq_pp6 : List (Nat × Nat × Nat × Nat) := [(3, 1002, 303, 0), (37, 71, 1022, 0), (43, 113, 1023, 0), (50, 114, 1027, 0), (60, 115, 1031, 0), (64, 120, 1051, 0), (69, 75, 1057, 0), (72, 1000, 1058, 0), (77, 119, 1067, 0), (81, 123, 1068, 0), (33, 11, 1021, 1), (53, 12, 1030, 1)]
def zq_pp7 : List (Nat × Nat × Nat × Nat) := [(3, 1002, 456, 0), (28, 19, 774, 0), (36, 61, 775, 0), (40, 57, 799, 0), (44, 32, 779, 0), (48, 26, 780, 0), (56, 20, 782, 0), (59, 62, 783, 0), (63, 37, 798, 0), (67, 63, 787, 0), (70, 34, 796, 0), (74, 31, 797, 0), (80, 64, 791, 0), (83, 28, 794, 0), (91, 30, 795, 0), (97, 96, 941, 0), (105, 79, 946, 0), (111, 80, 947, 0), (115, 83, 948, 0), (121, 84, 949, 0), (125, 86, 950, 0), (131, 89, 951, 0), (52, 11, 781, 1), (101, 12, 945, 1)]
def zq_pp8 : List (Nat × Nat × Nat × Nat) := [(3, 1002, 258, 0), (60, 100, 965, 0), (64, 101, 969, 0), (68, 74, 973, 0), (79, 90, 975, 0), (91, 108, 1001, 0), (95, 109, 1005, 0), (99, 110, 1009, 0), (103, 92, 1012, 0), (48, 11, 964, 1), (72, 12, 974, 1), (85, 107, 997, 1)]
def zq_pp9 : List (Nat × Nat × Nat × Nat) := [(1, 1002, 138, 0), (89, 10, 474, 0), (93, 14, 543, 0), (101, 16, 552, 0), (105, 58, 762, 0), (119, 60, 770, 0), (122, 66, 804, 0), (129, 12, 808, 0), (142, 67, 809, 0), (146, 69, 826, 0), (158, 71, 827, 0), (162, 68, 835, 0), (166, 74, 840, 0), (169, 35, 854, 0), (173, 77, 855, 0), (176, 79, 863, 0), (180, 80, 867, 0), (184, 83, 885, 0), (188, 84, 892, 0), (191, 86, 900, 0), (197, 88, 908, 0), (201, 89, 912, 0), (208, 78, 859, 0), (212, 95, 937, 0), (225, 99, 960, 0), (238, 103, 980, 0), (242, 106, 993, 0), (249, 112, 1017, 0), (258, 118, 1043, 0), (261, 119, 1047, 0), (265, 122, 1063, 0), (275, 11, 1076, 0), (282, 126, 1081, 0), (286, 128, 1090, 0), (300, 133, 1112, 0), (304, 135, 1122, 0), (307, 136, 1126, 0), (313, 90, 1116, 0), (316, 143, 1221, 0), (319, 81, 1134, 0), (328, 139, 1139, 0), (331, 141, 1148, 0), (338, 1001, 748, 0), (343, 127, 1085, 0), (346, 107, 1094, 0), (350, 129, 1095, 0), (359, 92, 1117, 0), (362, 1000, 751, 0), (9, 1, 143, 1), (18, 2, 192, 1), (28, 3, 228, 1), (35, 4, 255, 1), (42, 5, 300, 1), (49, 6, 323, 1), (71, 7, 338, 1), (81, 9, 453, 1)]
def zq_pp10 : List (Nat × Nat × Nat × Nat) := [(7, 146, 1232, 0), (18, 1002, 1241, 0), (173, 148, 1278, 0), (177, 149, 1282, 0), (180, 156, 1444, 0), (189, 157, 1448, 0), (193, 158, 1451, 0), (200, 159, 1456, 0), (209, 181, 1542, 0), (212, 162, 1467, 0), (215, 160, 1459, 0), (218, 170, 1499, 0), (221, 169, 1495, 0), (224, 171, 1503, 0), (228, 165, 1479, 0), (237, 164, 1475, 0), (241, 166, 1483, 0), (245, 173, 1511, 0), (249, 155, 1440, 0), (258, 161, 1463, 0), (261, 174, 1514, 0), (264, 175, 1518, 0), (267, 184, 1554, 0), (270, 163, 1471, 0), (273, 167, 1487, 0), (276, 168, 1491, 0), (280, 172, 1507, 0), (287, 176, 1522, 0), (290, 182, 1546, 0), (294, 186, 1562, 0), (297, 177, 1526, 0), (300, 178, 1530, 0), (303, 183, 1550, 0), (306, 179, 1534, 0), (309, 180, 1538, 0), (312, 195, 1598, 0), (315, 151, 1290, 0), (319, 152, 1294, 0), (322, 153, 1298, 0), (325, 150, 1286, 0), (331, 206, 1641, 0), (335, 193, 1590, 0), (338, 192, 1586, 0), (341, 194, 1594, 0), (344, 191, 1582, 0), (347, 196, 1601, 0), (350, 190, 1578, 0), (353, 189, 1574, 0), (356, 203, 1629, 0), (359, 188, 1570, 0), (362, 198, 1609, 0), (365, 199, 1613, 0), (368, 202, 1625, 0), (371, 215, 1681, 0), (386, 208, 1649, 0), (389, 205, 1637, 0), (392, 207, 1645, 0), (395, 210, 1661, 0), (399, 211, 1665, 0), (403, 214, 1677, 0), (406, 216, 1685, 0), (409, 218, 1693, 0), (412, 219, 1697, 0), (415, 217, 1689, 0), (418, 222, 1709, 0), (430, 227, 1729, 0), (433, 228, 1733, 0), (436, 226, 1725, 0), (439, 225, 1721, 0), (444, 232, 1750, 0), (448, 233, 1754, 0), (451, 237, 1769, 0), (454, 236, 1765, 0), (457, 238, 1773, 0), (460, 235, 1761, 0), (466, 243, 1793, 0), (469, 241, 1785, 0), (472, 242, 1789, 0), (475, 245, 1801, 0), (478, 246, 1804, 0), (482, 251, 1823, 0), (486, 249, 1815, 0), (489, 250, 1819, 0), (499, 256, 1843, 0), (502, 255, 1839, 0), (505, 259, 1855, 0), (508, 258, 1851, 0), (511, 261, 1863, 0)]
def zq_pp11 : List (Nat × Nat × Nat × Nat) := [(7, 142, 1156, 0), (15, 0, 135, 0), (18, 147, 1238, 0), (21, 13, 539, 0), (25, 145, 1228, 0), (26, 15, 548, 0), (30, 154, 1436, 0), (31, 59, 766, 0), (34, 185, 1558, 0), (35, 65, 800, 0), (39, 187, 1566, 0), (40, 70, 822, 0), (43, 197, 1605, 0), (44, 72, 831, 0), (47, 200, 1617, 0), (48, 73, 836, 0), (51, 201, 1621, 0), (52, 76, 850, 0), (56, 204, 1633, 0), (57, 82, 881, 0), (61, 209, 1657, 0), (62, 85, 896, 0), (65, 212, 1669, 0), (66, 87, 904, 0), (70, 213, 1673, 0), (71, 93, 929, 0), (75, 220, 1701, 0), (76, 94, 933, 0), (79, 221, 1705, 0), (80, 97, 952, 0), (83, 223, 1713, 0), (84, 98, 956, 0), (87, 224, 1717, 0), (88, 102, 976, 0), (91, 229, 1737, 0), (92, 104, 985, 0), (95, 230, 1742, 0), (96, 105, 989, 0), (99, 231, 1746, 0), (100, 111, 1013, 0), (103, 234, 1757, 0), (104, 116, 1035, 0), (107, 239, 1777, 0), (108, 117, 1039, 0), (111, 240, 1781, 0), (112, 121, 1059, 0), (115, 244, 1797, 0), (116, 124, 1072, 0), (120, 247, 1807, 0), (121, 125, 1077, 0), (124, 248, 1811, 0), (125, 130, 1099, 0), (128, 252, 1826, 0), (129, 131, 1104, 0), (132, 253, 1831, 0), (133, 132, 1108, 0), (136, 254, 1835, 0), (137, 134, 1118, 0), (140, 257, 1847, 0), (141, 1003, 1152, 0), (146, 260, 1859, 0), (147, 144, 1224, 0), (150, 137, 1130, 0), (153, 262, 1867, 0), (154, 138, 1135, 0), (158, 263, 1871, 0), (159, 140, 1144, 0), (162, 264, 1875, 0)]
def zq_pp12 : List (Nat × Nat × Nat × Nat) := []
def zq_pp13 : List (Nat × Nat × Nat × Nat) := []
def zq_pps : List (List (Nat × Nat × Nat × Nat)) := [zq_pp0, zq_pp1, zq_pp2, zq_pp3, zq_pp4, zq_pp5, zq_pp6, zq_pp7, zq_pp8, zq_pp9, zq_pp10, zq_pp11, zq_pp12, zq_pp13]
def zq_np0 : List (Nat × Nat × Nat × Nat × Nat) := [(59, 1, 342, 343, 122)]
def zq_np1 : List (Nat × Nat × Nat × Nat × Nat) := []
def zq_np2 : List (Nat × Nat × Nat × Nat × Nat) := []
def zq_np3 : List (Nat × Nat × Nat × Nat × Nat) := []
def zq_np4 : List (Nat × Nat × Nat × Nat × Nat) := []
def zq_np5 : List (Nat × Nat × Nat × Nat × Nat) := []
def zq_np6 : List (Nat × Nat × Nat × Nat × Nat) := []
def zq_np7 : List (Nat × Nat × Nat × Nat × Nat) := []
def zq_np8 : List (Nat × Nat × Nat × Nat × Nat) := []
def zq_np9 : List (Nat × Nat × Nat × Nat × Nat) := [(7, 5, 141, 142, 115), (16, 4, 190, 191, 116), (26, 2, 226, 227, 117), (33, 8, 253, 254, 118), (40, 6, 298, 299, 119), (47, 3, 321, 322, 120), (69, 0, 336, 337, 121), (79, 7, 451, 452, 123)]
def zq_np10 : List (Nat × Nat × Nat × Nat × Nat) := []
def zq_np11 : List (Nat × Nat × Nat × Nat × Nat) := [(8, 9, 133, 134, 114), (16, 10, 1237, 1235, 124)]
def zq_np12 : List (Nat × Nat × Nat × Nat × Nat) := []
def zq_np13 : List (Nat × Nat × Nat × Nat × Nat) := []
def zq_nps : List (List (Nat × Nat × Nat × Nat × Nat)) := [zq_np0, zq_np1, zq_np2, zq_np3, zq_np4, zq_np5, zq_np6, zq_np7, zq_np8, zq_np9, zq_np10, zq_np11, zq_np12, zq_np13]
def zq_jp0 : List (Nat × Int64 × Nat) := []
def zq_ip0 : List (Nat × Int32 × Nat) := []
def zq_jp1 : List (Nat × Int64 × Nat) := []
def zq_ip1 : List (Nat × Int32 × Nat) := []
def zq_jp2 : List (Nat × Int64 × Nat) := []
def zq_ip2 : List (Nat × Int32 × Nat) := []
def zq_jp3 : List (Nat × Int64 × Nat) := [(19, 1103515245, 876), (21, 12345, 877), (23, 2147483648, 878), (25, 65536, 879)]
def zq_ip3 : List (Nat × Int32 × Nat) := []
def zq_jp4 : List (Nat × Int64 × Nat) := []
def zq_ip4 : List (Nat × Int32 × Nat) := []
def zq_jp5 : List (Nat × Int64 × Nat) := [(15, 255, 547)]
def zq_ip5 : List (Nat × Int32 × Nat) := []
def zq_jp6 : List (Nat × Int64 × Nat) := [(85, 1000, 1071)]
def zq_ip6 : List (Nat × Int32 × Nat) := []
def zq_jp7 : List (Nat × Int64 × Nat) := []
def zq_ip7 : List (Nat × Int32 × Nat) := []
def zq_jp8 : List (Nat × Int64 × Nat) := [(83, 1000, 984), (89, -1, 1000)]
def zq_ip8 : List (Nat × Int32 × Nat) := []
def zq_jp9 : List (Nat × Int64 × Nat) := [(354, 1000000, 1098)]
def zq_ip9 : List (Nat × Int32 × Nat) := [(290, 1000000, 1103)]
def zq_jp10 : List (Nat × Int64 × Nat) := [(34, 831706, 1242), (36, 1604747591, 1243), (38, 40072202, 1244), (40, 17848, 1245), (42, 4662264, 1246), (44, 31840, 1247), (46, 6395136, 1248), (48, 12177793, 1249), (50, 57, 1250), (52, 1402138699, 1251), (54, 45076385548, 1252), (56, 412258, 1253), (58, 36179019, 1254), (60, 43890888, 1255), (62, 375310, 1256), (64, 227314, 1257), (66, 969708, 1258), (68, 29029848, 1259), (70, 43366239, 1260), (72, 426207, 1261), (74, 839908, 1262), (76, 47317195, 1263), (78, 325028, 1264), (80, 15778433, 1265), (82, 687687, 1266), (84, 8774, 1267), (86, 19741, 1268), (88, 1891, 1269), (90, 573, 1270), (92, 8777609350, 1271), (94, 35882198, 1272), (96, 628412, 1273), (98, 570026, 1274), (100, 789229, 1275), (102, 3053484035, 1276), (104, 1176028, 1277), (187, 37, 1447), (196, 10, 1454), (198, 48, 1455), (378, 1103515245, 1653), (380, 12345, 1654), (382, 2147483648, 1655), (384, 65536, 1656), (442, 1000, 1741)]
def zq_ip10 : List (Nat × Int32 × Nat) := [(492, 1000000, 1830)]
def zq_jp11 : List (Nat × Int64 × Nat) := [(19, 4294967295, 1879)]
def zq_ip11 : List (Nat × Int32 × Nat) := []
def zq_jp12 : List (Nat × Int64 × Nat) := []
def zq_ip12 : List (Nat × Int32 × Nat) := []
def zq_jp13 : List (Nat × Int64 × Nat) := []
def zq_ip13 : List (Nat × Int32 × Nat) := [(265, 1431655765, 1054), (266, 858993459, 1055), (267, 252645135, 1056)]
def zq_jps : List (List (Nat × Int64 × Nat)) := [zq_jp0, zq_jp1, zq_jp2, zq_jp3, zq_jp4, zq_jp5, zq_jp6, zq_jp7, zq_jp8, zq_jp9, zq_jp10, zq_jp11, zq_jp12, zq_jp13]
def zq_ips : List (List (Nat × Int32 × Nat)) := [zq_ip0, zq_ip1, zq_ip2, zq_ip3, zq_ip4, zq_ip5, zq_ip6, zq_ip7, zq_ip8, zq_ip9, zq_ip10, zq_ip11, zq_ip12, zq_ip13]
def zq_wN : List String := ["POST", "MAN", "WEIGHS", "UNDER", "BRAVE", "WIT", "COINS", "AT", "NOT", "AND", "OR", "SKILL", "WORTH", "GOES", "FRONT", "THEIRS", "QUARTER", "HEED", "DRAW", "SELL", "ORDER", "WEEKS", "HOLD", "PUSH", "YIELD", "FOOT", "HORSE", "MULE", "FOE", "COURAGE", "SENSE", "LOAD", "KIND", "OURS", "AGAINST", "WHAT"]
def zq_wC : List Int64 := [326396, 9518, 332864551, 11438892, 1418504, 17030, 1896526, 47, 10631, 1111, 423, 10320789, 12532058, 148870, 3554273, 291335149, 6888375828, 161248, 91904, 377958, 8328978, 12325519, 168727, 330758, 13467145, 129458, 4560413, 271517, 4784, 1389010550, 10206518, 247162, 223456, 311059, 488582165, 458588]
def zq_wU : List Int32 := [0, 0, 0, 0, 0, 0, 0, 0, 0, 0, 0, 1, 1, 1, 1, 1, 1, 1, 2, 2, 2, 2, 3, 3, 3, 4, 4, 4, 4, 5, 5, 5, 5, 6, 6, 6]
def zq_wW : List Int32 := [0, 0, 0, 0, 0, 0, 0, 0, 0, 0, 0, 0, 1, 2, 3, 4, 5, 6, 0, 1, 2, 3, 0, 1, 2, 0, 1, 2, 3, 0, 1, 2, 3, 0, 1, 2]
theorem zq_fpk : ∀ o, o < 14 → ∀ e ∈ zq_fps.getD o [], (if e.2.1 < 11 then decide (e.2.2.1 < zq_N e.2.1) && zq_has e.2.2.2 (.fieldLink (zq_R o) e.1 (zq_R e.2.1) (zq_Tf e.2.1 e.2.2.1).2.1 (zq_Tf e.2.1 e.2.2.1).2.2.1) && decide ((zq_Tf e.2.1 e.2.2.1).1 = zq_R e.2.1) else if e.2.1 = 20 then (match e.2.2.1 with | 0 => zq_has e.2.2.2 (.fieldLink (zq_R o) e.1 "RaffleArmy$Word" "code" "J") | 1 => zq_has e.2.2.2 (.fieldLink (zq_R o) e.1 "RaffleArmy$Word" "use" "I") | 2 => zq_has e.2.2.2 (.fieldLink (zq_R o) e.1 "RaffleArmy$Word" "which" "I") | _ => false) else if e.2.1 = 21 then decide (e.2.2.1 < 36) && zq_has e.2.2.2 (.fieldLink (zq_R o) e.1 "RaffleArmy$Word" (zq_wN.getD e.2.2.1 "") "LRaffleArmy$Word;") else false) = true := by decide +kernel
theorem zq_npk : ∀ o, o < 14 → ∀ e ∈ zq_nps.getD o [], (decide (e.2.1 < 11) && zq_has e.2.2.1 (.classLink (zq_R o) e.1 (zq_R e.2.1)) && zq_has e.2.2.2.1 (.instantiable (zq_R e.2.1) (zq_N e.2.1)) && zq_has e.2.2.2.2 (.initialized (zq_R e.2.1))) = true := by decide +kernel
theorem zq_jpk : ∀ o, o < 14 → ∀ e ∈ zq_jps.getD o [], zq_has e.2.2 (.constantLong (zq_R o) e.1 e.2.1) = true := by decide +kernel
theorem zq_ipk : ∀ o, o < 14 → ∀ e ∈ zq_ips.getD o [], zq_has e.2.2 (.constant (zq_R o) e.1 e.2.1) = true := by decide +kernel
def zq_y (k : Nat) : MethodName := (zq_MT.getD k zq_m0).1
def zq_spl (k : Nat) : MethodName := if k = 1000 then ⟨"java/lang/Math", "max", "(II)I"⟩ else if k = 1001 then ⟨"java/lang/Math", "min", "(II)I"⟩ else if k = 1002 then ⟨"java/lang/Object", "<init>", "()V"⟩ else if k = 1003 then ⟨"RaffleArmyLaw", "rests", "(LRaffleArmy;III[J)I"⟩ else zq_y k
theorem zq_ppk : ∀ o, o < 14 → ∀ e ∈ zq_pps.getD o [], (if e.2.2.2 = 0 then zq_has e.2.2.1 (.methodLink (zq_R o) e.1 (zq_spl e.2.1)) else decide (lw_tbl[e.2.2.1]? = some (.methodLinkNest (zq_R o) e.1 (zq_spl e.2.1) "RaffleArmy")) && decide (e.2.1 < 1000)) = true := by decide +kernel

/-! the small machine: a store of numbers and references by the number of an object and a place, kinds of objects in a list -/
abbrev zS : Type := (Nat → Nat → Int32) × (Nat → Nat → Int64) × (Nat → Nat → Option Nat)
abbrev zK : Type := Nat × Nat
abbrev zH : Type := List zK × zS
abbrev zC : Type := Nat × List (Option Value) × List Value × zH
abbrev zX : Type := Nat × (Nat → Int32)
def zq_kd (h : zH) (o : Nat) : Option zK := if 64 ≤ o then h.1[o - 64]? else none
def zq_sI (s : zS) (o k : Nat) (v : Int32) : zS := (fun a b => if a = o then (if b = k then v else s.1 a b) else s.1 a b, s.2.1, s.2.2)
def zq_sL (s : zS) (o k : Nat) (v : Int64) : zS := (s.1, fun a b => if a = o then (if b = k then v else s.2.1 a b) else s.2.1 a b, s.2.2)
def zq_sR (s : zS) (o k : Nat) (v : Option Nat) : zS := (s.1, s.2.1, fun a b => if a = o then (if b = k then v else s.2.2 a b) else s.2.2 a b)
def zq_z0 (s : zS) (o : Nat) : zS := (fun a b => if a = o then 0 else s.1 a b, fun a b => if a = o then 0 else s.2.1 a b, fun a b => if a = o then none else s.2.2 a b)
def zq_tag (ty : FieldType) : Nat := match ty with
  | .int => 0 | .boolean => 0 | .char => 0 | .long => 1 | _ => 2
def zq_fv (t : Nat) (s : zS) (o k : Nat) : Value := match t with
  | 0 => .int (s.1 o k) | 1 => .long (s.2.1 o k) | _ => va_rf (s.2.2 o k)
def zq_ic (n : Int) : Int32 := match n with
  | .ofNat k => Int32.ofNat k | .negSucc k => -(Int32.ofNat (k + 1))
def zq_r8 (n : Int) : Bool := match n with
  | .ofNat k => Nat.ble k 127 | .negSucc k => Nat.ble k 127
def zq_r16 (n : Int) : Bool := match n with
  | .ofNat k => Nat.ble k 32767 | .negSucc k => Nat.ble k 32767
def zq_ld (lv : List (Option Value)) (i : Nat) : Option Value := match lv[i]? with
  | some (some v) => some v | _ => none
def zq_clr (lv : List (Option Value)) (i : Nat) : List (Option Value) := match lv[i]? with
  | some (some _) => lv
  | _ => match i with
    | 0 => lv
    | j + 1 => match lv[j]? with
      | some (some (.long _)) => lv.set j none
      | some (some (.double _)) => lv.set j none
      | _ => lv
def zq_s1 (lv : List (Option Value)) (i : Nat) (v : Value) : Option (List (Option Value)) := if i < lv.length then some ((zq_clr lv i).set i (some v)) else none
def zq_s2 (lv : List (Option Value)) (i : Nat) (v : Value) : Option (List (Option Value)) := if i + 1 < lv.length then some (((zq_clr lv i).set i (some v)).set (i + 1) none) else none
def zq_tg (pc : Nat) (off : Int) : Option Nat := match (pc : Int) + off with
  | .ofNat t => some t | .negSucc _ => none
def zq_inb (i : Int32) (n : Nat) : Prop := ¬ (i < 0 ∨ n ≤ i.toNatClampNeg)
/-- constants, loads -/
def zq_g1 (o : Nat) (ins : Instr) (pc : Nat) (lv : List (Option Value)) (st : List Value) (h : zH) : Option zC := match ins with
  | .iconst n => some (pc + 1, lv, .int (zq_ic n) :: st, h)
  | .bipush n => if zq_r8 n = true then some (pc + 2, lv, .int (zq_ic n) :: st, h) else none
  | .sipush n => if zq_r16 n = true then some (pc + 3, lv, .int (zq_ic n) :: st, h) else none
  | .lconst n => some (pc + 1, lv, .long (Int64.ofNat n.val) :: st, h)
  | .aconst_null => some (pc + 1, lv, .null :: st, h)
  | .ldc2_w i => match (zq_jps.getD o []).lookup i with
    | some e => some (pc + 3, lv, .long e.1 :: st, h) | none => none
  | .ldc_w i => match (zq_ips.getD o []).lookup i with
    | some e => some (pc + 3, lv, .int e.1 :: st, h) | none => none
  | .iload i => match zq_ld lv i with
    | some (.int x) => some (pc + 2, lv, .int x :: st, h) | _ => none
  | .iload_n i => match zq_ld lv i.val with
    | some (.int x) => some (pc + 1, lv, .int x :: st, h) | _ => none
  | .lload i => match zq_ld lv i with
    | some (.long x) => some (pc + 2, lv, .long x :: st, h) | _ => none
  | .lload_n i => match zq_ld lv i.val with
    | some (.long x) => some (pc + 1, lv, .long x :: st, h) | _ => none
  | _ => none
def zq_g2 (ins : Instr) (pc : Nat) (lv : List (Option Value)) (st : List Value) (h : zH) : Option zC := match ins with
  | .aload i => match zq_ld lv i with
    | some (.ref x) => some (pc + 2, lv, .ref x :: st, h) | some .null => some (pc + 2, lv, .null :: st, h) | _ => none
  | .aload_n i => match zq_ld lv i.val with
    | some (.ref x) => some (pc + 1, lv, .ref x :: st, h) | some .null => some (pc + 1, lv, .null :: st, h) | _ => none
  | .istore i => match st with
    | .int x :: r => (zq_s1 lv i (.int x)).map (fun l => (pc + 2, l, r, h)) | _ => none
  | .istore_n i => match st with
    | .int x :: r => (zq_s1 lv i.val (.int x)).map (fun l => (pc + 1, l, r, h)) | _ => none
  | .lstore i => match st with
    | .long x :: r => (zq_s2 lv i (.long x)).map (fun l => (pc + 2, l, r, h)) | _ => none
  | .lstore_n i => match st with
    | .long x :: r => (zq_s2 lv i.val (.long x)).map (fun l => (pc + 1, l, r, h)) | _ => none
  | .astore i => match st with
    | .ref x :: r => (zq_s1 lv i (.ref x)).map (fun l => (pc + 2, l, r, h)) | .null :: r => (zq_s1 lv i .null).map (fun l => (pc + 2, l, r, h)) | _ => none
  | .astore_n i => match st with
    | .ref x :: r => (zq_s1 lv i.val (.ref x)).map (fun l => (pc + 1, l, r, h)) | .null :: r => (zq_s1 lv i.val .null).map (fun l => (pc + 1, l, r, h)) | _ => none
  | .iinc i n => match zq_ld lv i with
    | some (.int x) => (zq_s1 lv i (.int (x + zq_ic n))).map (fun l => (pc + 3, l, st, h)) | _ => none
  | _ => none
/-- numbers -/
def zq_g3 (ins : Instr) (pc : Nat) (lv : List (Option Value)) (st : List Value) (h : zH) : Option zC := match ins with
  | .iadd => match st with | .int y :: .int x :: r => some (pc + 1, lv, .int (x + y) :: r, h) | _ => none
  | .isub => match st with | .int y :: .int x :: r => some (pc + 1, lv, .int (x - y) :: r, h) | _ => none
  | .imul => match st with | .int y :: .int x :: r => some (pc + 1, lv, .int (x * y) :: r, h) | _ => none
  | .iand => match st with | .int y :: .int x :: r => some (pc + 1, lv, .int (x &&& y) :: r, h) | _ => none
  | .ior => match st with | .int y :: .int x :: r => some (pc + 1, lv, .int (x ||| y) :: r, h) | _ => none
  | .ixor => match st with | .int y :: .int x :: r => some (pc + 1, lv, .int (x ^^^ y) :: r, h) | _ => none
  | .idiv => match st with | .int y :: .int x :: r => if y = 0 then none else some (pc + 1, lv, .int (x / y) :: r, h) | _ => none
  | .irem => match st with | .int y :: .int x :: r => if y = 0 then none else some (pc + 1, lv, .int (x - x / y * y) :: r, h) | _ => none
  | .ineg => match st with | .int x :: r => some (pc + 1, lv, .int (-x) :: r, h) | _ => none
  | .ishl => match st with | .int y :: .int x :: r => some (pc + 1, lv, .int (x <<< (y &&& 31)) :: r, h) | _ => none
  | .ishr => match st with | .int y :: .int x :: r => some (pc + 1, lv, .int (x >>> (y &&& 31)) :: r, h) | _ => none
  | _ => none
def zq_g4 (ins : Instr) (pc : Nat) (lv : List (Option Value)) (st : List Value) (h : zH) : Option zC := match ins with
  | .ladd => match st with | .long y :: .long x :: r => some (pc + 1, lv, .long (x + y) :: r, h) | _ => none
  | .lsub => match st with | .long y :: .long x :: r => some (pc + 1, lv, .long (x - y) :: r, h) | _ => none
  | .lmul => match st with | .long y :: .long x :: r => some (pc + 1, lv, .long (x * y) :: r, h) | _ => none
  | .land => match st with | .long y :: .long x :: r => some (pc + 1, lv, .long (x &&& y) :: r, h) | _ => none
  | .lor => match st with | .long y :: .long x :: r => some (pc + 1, lv, .long (x ||| y) :: r, h) | _ => none
  | .ldiv => match st with | .long y :: .long x :: r => if y = 0 then none else some (pc + 1, lv, .long (x / y) :: r, h) | _ => none
  | .lrem => match st with | .long y :: .long x :: r => if y = 0 then none else some (pc + 1, lv, .long (x - x / y * y) :: r, h) | _ => none
  | .lshl => match st with | .int y :: .long x :: r => some (pc + 1, lv, .long (x <<< (y.toInt64 &&& 63)) :: r, h) | _ => none
  | .lshr => match st with | .int y :: .long x :: r => some (pc + 1, lv, .long (x >>> (y.toInt64 &&& 63)) :: r, h) | _ => none
  | .lcmp => match st with | .long y :: .long x :: r => some (pc + 1, lv, .int (lg_cmp x y) :: r, h) | _ => none
  | _ => none
def zq_rok (v : Value) : Bool := match v with
  | .null => true | .ref i => decide (i < 38 ∨ 64 ≤ i) | _ => false
def zq_g5 (ins : Instr) (pc : Nat) (lv : List (Option Value)) (st : List Value) (h : zH) : Option zC := match ins with
  | .i2l => match st with | .int x :: r => some (pc + 1, lv, .long x.toInt64 :: r, h) | _ => none
  | .l2i => match st with | .long x :: r => some (pc + 1, lv, .int x.toInt32 :: r, h) | _ => none
  | .i2c => match st with | .int x :: r => some (pc + 1, lv, .int (x.toUInt32 % 65536).toInt32 :: r, h) | _ => none
  | .iushr => match st with | .int y :: .int x :: r => some (pc + 1, lv, .int (x.toUInt32 >>> (y.toUInt32 &&& Int32.toUInt32 31)).toInt32 :: r, h) | _ => none
  | .dup => match st with | .int x :: r => some (pc + 1, lv, .int x :: .int x :: r, h) | .ref x :: r => some (pc + 1, lv, .ref x :: .ref x :: r, h) | _ => none
  | .dup2 => match st with | .int x :: .ref y :: r => some (pc + 1, lv, .int x :: .ref y :: .int x :: .ref y :: r, h) | _ => none
  | .goto off => (zq_tg pc off).map (fun t => (t, lv, st, h))
  | .ifnull off => match st with
    | .null :: r => (zq_tg pc off).map (fun t => (t, lv, r, h)) | .ref _ :: r => some (pc + 3, lv, r, h) | _ => none
  | .if_acmp .eq off => match st with
    | y :: x :: r => if zq_rok x = true ∧ zq_rok y = true then (zq_tg pc off).map (fun t => (if x = y then t else pc + 3, lv, r, h)) else none | _ => none
  | .if_acmp .ne off => match st with
    | y :: x :: r => if zq_rok x = true ∧ zq_rok y = true then (zq_tg pc off).map (fun t => (if x = y then pc + 3 else t, lv, r, h)) else none | _ => none
  | _ => none
/-- branches -/
def zq_g6 (ins : Instr) (pc : Nat) (lv : List (Option Value)) (st : List Value) (h : zH) : Option zC := match ins with
  | .ifCond .eq off => match st with | .int x :: r => (zq_tg pc off).map (fun t => (if x = 0 then t else pc + 3, lv, r, h)) | _ => none
  | .ifCond .ne off => match st with | .int x :: r => (zq_tg pc off).map (fun t => (if x = 0 then pc + 3 else t, lv, r, h)) | _ => none
  | .ifCond .lt off => match st with | .int x :: r => (zq_tg pc off).map (fun t => (if x < 0 then t else pc + 3, lv, r, h)) | _ => none
  | .ifCond .ge off => match st with | .int x :: r => (zq_tg pc off).map (fun t => (if 0 ≤ x then t else pc + 3, lv, r, h)) | _ => none
  | .ifCond .gt off => match st with | .int x :: r => (zq_tg pc off).map (fun t => (if 0 < x then t else pc + 3, lv, r, h)) | _ => none
  | .ifCond .le off => match st with | .int x :: r => (zq_tg pc off).map (fun t => (if x ≤ 0 then t else pc + 3, lv, r, h)) | _ => none
  | .if_icmp .eq off => match st with | .int y :: .int x :: r => (zq_tg pc off).map (fun t => (if x = y then t else pc + 3, lv, r, h)) | _ => none
  | .if_icmp .ne off => match st with | .int y :: .int x :: r => (zq_tg pc off).map (fun t => (if x = y then pc + 3 else t, lv, r, h)) | _ => none
  | .if_icmp .lt off => match st with | .int y :: .int x :: r => (zq_tg pc off).map (fun t => (if x < y then t else pc + 3, lv, r, h)) | _ => none
  | .if_icmp .ge off => match st with | .int y :: .int x :: r => (zq_tg pc off).map (fun t => (if y ≤ x then t else pc + 3, lv, r, h)) | _ => none
  | .if_icmp .gt off => match st with | .int y :: .int x :: r => (zq_tg pc off).map (fun t => (if y < x then t else pc + 3, lv, r, h)) | _ => none
  | .if_icmp .le off => match st with | .int y :: .int x :: r => (zq_tg pc off).map (fun t => (if x ≤ y then t else pc + 3, lv, r, h)) | _ => none
  | .tableswitch dflt lo hi offs => match st with
    | .int x :: r => if x.toInt < lo ∨ hi < x.toInt then (zq_tg pc dflt).map (fun t => (t, lv, r, h)) else (match offs[(x.toInt - lo).toNat]? with | some off => (zq_tg pc off).map (fun t => (t, lv, r, h)) | none => none) | _ => none
  | _ => none
/-- may this value go into a field or out of a method of this type -/
def zq_fit (ty : FieldType) (x : Int32) : Bool := match ty with
  | .int => true
  | .boolean => decide (x = 0 ∨ x = 1)
  | .char => decide (0 ≤ x ∧ x ≤ 65535)
  | _ => false
/-- fields -/
def zq_gf (h : zH) (ci o k : Nat) : Option Value := if zq_kd h o = some (0, ci) then some (zq_fv (zq_tag (zq_ty ci k)) h.2 o k) else none
def zq_pf (h : zH) (ci o k : Nat) (v : Value) : Option zH := if zq_kd h o = some (0, ci) then (match zq_tag (zq_ty ci k), v with
  | 0, .int x => if zq_fit (zq_ty ci k) x = true then some (h.1, zq_sI h.2 o k x) else none
  | 1, .long x => some (h.1, zq_sL h.2 o k x)
  | 2, .ref x => some (h.1, zq_sR h.2 o k (some x))
  | 2, .null => some (h.1, zq_sR h.2 o k none)
  | _, _ => none) else none
def zq_g7 (o : Nat) (ini : Bool) (ins : Instr) (pc : Nat) (lv : List (Option Value)) (st : List Value) (h : zH) : Option zC := match ins with
  | .getfield i => match (zq_fps.getD o []).lookup i with
    | some e => (match st with
      | .ref a :: r => if e.1 < 11 then (zq_gf h e.1 a e.2.1).map (fun v => (pc + 3, lv, v :: r, h))
        else if e.1 = 20 ∧ a < 36 then (match e.2.1 with
          | 0 => some (pc + 3, lv, .long (zq_wC.getD a 0) :: r, h)
          | 1 => some (pc + 3, lv, .int (zq_wU.getD a 0) :: r, h)
          | 2 => some (pc + 3, lv, .int (zq_wW.getD a 0) :: r, h)
          | _ => none) else none
      | _ => none)
    | none => none
  | .putfield i => match (zq_fps.getD o []).lookup i with
    | some e => (match st with
      | v :: .ref a :: r => if e.1 < 11 ∧ ((zq_Tf e.1 e.2.1).2.2.2 = false ∨ (ini = true ∧ e.1 = o)) then (zq_pf h e.1 a e.2.1 v).map (fun h' => (pc + 3, lv, r, h')) else none
      | _ => none)
    | none => none
  | .getstatic i => if o = 5 ∧ i = 60 then some (pc + 3, lv, .ref 36 :: st, h) else match (zq_fps.getD o []).lookup i with
    | some e => if e.1 = 21 then some (pc + 3, lv, .ref e.2.1 :: st, h) else none
    | none => none
  | _ => none
/-- arrays -/
def zq_rdI (sc : zX) (h : zH) (a : Nat) (i : Int32) : Option Int32 := if a = 37 then (if i < 0 ∨ sc.1 ≤ i.toNatClampNeg then none else some (sc.2 i.toNatClampNeg)) else match zq_kd h a with
  | some (1, n) => if i < 0 ∨ n ≤ i.toNatClampNeg then none else some (h.2.1 a i.toNatClampNeg) | _ => none
def zq_rdX (t : Nat) (h : zH) (a : Nat) (i : Int32) : Option Int32 := match zq_kd h a with
  | some (t', n) => if t' = t then (if i < 0 ∨ n ≤ i.toNatClampNeg then none else some (h.2.1 a i.toNatClampNeg)) else none | _ => none
def zq_rdL (h : zH) (a : Nat) (i : Int32) : Option Int64 := match zq_kd h a with
  | some (2, n) => if i < 0 ∨ n ≤ i.toNatClampNeg then none else some (h.2.2.1 a i.toNatClampNeg) | _ => none
def zq_rdR (h : zH) (a : Nat) (i : Int32) : Option (Option Nat) := if a = 36 then (if i < 0 ∨ 36 ≤ i.toNatClampNeg then none else some (some i.toNatClampNeg)) else match zq_kd h a with
  | some (t, n) => if t = 5 ∨ t = 6 then (if i < 0 ∨ n ≤ i.toNatClampNeg then none else some (h.2.2.2 a i.toNatClampNeg)) else none | _ => none
def zq_len (sc : zX) (h : zH) (a : Nat) : Option Int32 := if a = 37 then some (Int32.ofNat sc.1) else if a = 36 then some 36 else match zq_kd h a with
  | some (t + 1, n) => if t < 6 then some (Int32.ofNat n) else none | _ => none
def zq_wrX (t : Nat) (h : zH) (a : Nat) (i x : Int32) : Option zH := match zq_kd h a with
  | some (t', n) => if t' = t then (if i < 0 ∨ n ≤ i.toNatClampNeg then none else some (h.1, zq_sI h.2 a i.toNatClampNeg x)) else none | _ => none
def zq_wrL (h : zH) (a : Nat) (i : Int32) (x : Int64) : Option zH := match zq_kd h a with
  | some (2, n) => if i < 0 ∨ n ≤ i.toNatClampNeg then none else some (h.1, zq_sL h.2 a i.toNatClampNeg x) | _ => none
def zq_wrR (h : zH) (a : Nat) (i : Int32) (x : Nat) : Option zH := match zq_kd h a, zq_kd h x with
  | some (t, n), some (0, c) => if (t = 5 ∧ c = 4) ∨ (t = 6 ∧ c = 2) then (if i < 0 ∨ n ≤ i.toNatClampNeg then none else some (h.1, zq_sR h.2 a i.toNatClampNeg (some x))) else none | _, _ => none
def zq_g8 (sc : zX) (ins : Instr) (pc : Nat) (lv : List (Option Value)) (st : List Value) (h : zH) : Option zC := match ins with
  | .iaload => match st with | .int i :: .ref a :: r => (zq_rdI sc h a i).map (fun v => (pc + 1, lv, .int v :: r, h)) | _ => none
  | .caload => match st with | .int i :: .ref a :: r => (zq_rdX 3 h a i).map (fun v => (pc + 1, lv, .int v :: r, h)) | _ => none
  | .baload => match st with | .int i :: .ref a :: r => (zq_rdX 4 h a i).map (fun v => (pc + 1, lv, .int v :: r, h)) | _ => none
  | .laload => match st with | .int i :: .ref a :: r => (zq_rdL h a i).map (fun v => (pc + 1, lv, .long v :: r, h)) | _ => none
  | .aaload => match st with | .int i :: .ref a :: r => (zq_rdR h a i).map (fun v => (pc + 1, lv, va_rf v :: r, h)) | _ => none
  | .arraylength => match st with | .ref a :: r => (zq_len sc h a).map (fun v => (pc + 1, lv, .int v :: r, h)) | _ => none
  | .iastore => match st with | .int x :: .int i :: .ref a :: r => (zq_wrX 1 h a i x).map (fun h' => (pc + 1, lv, r, h')) | _ => none
  | .castore => match st with | .int x :: .int i :: .ref a :: r => (zq_wrX 3 h a i (vp_nar .char x)).map (fun h' => (pc + 1, lv, r, h')) | _ => none
  | .bastore => match st with | .int x :: .int i :: .ref a :: r => (zq_wrX 4 h a i (vp_nar .boolean x)).map (fun h' => (pc + 1, lv, r, h')) | _ => none
  | .lastore => match st with | .long x :: .int i :: .ref a :: r => (zq_wrL h a i x).map (fun h' => (pc + 1, lv, r, h')) | _ => none
  | .aastore => match st with | .ref x :: .int i :: .ref a :: r => (zq_wrR h a i x).map (fun h' => (pc + 1, lv, r, h')) | _ => none
  | _ => none
/-- what is made -/
def zq_mk (h : zH) (kd : zK) : zH := (h.1 ++ [kd], zq_z0 h.2 (64 + h.1.length))
def zq_at (ty : ArrayType) : Option Nat := match ty with
  | .int => some 1 | .long => some 2 | .char => some 3 | .boolean => some 4 | _ => none
def zq_g9 (al : Bool) (o : Nat) (ins : Instr) (pc : Nat) (lv : List (Option Value)) (st : List Value) (h : zH) : Option zC := match ins with
  | .new i => if al = true then (match (zq_nps.getD o []).lookup i with
    | some e => some (pc + 3, lv, .ref (64 + h.1.length) :: st, zq_mk h (0, e.1)) | none => none) else none
  | .newarray ty => if al = true then (match zq_at ty, st with
    | some t, .int n :: r => if n < 0 ∨ 100000 < n.toNatClampNeg then none else some (pc + 2, lv, .ref (64 + h.1.length) :: r, zq_mk h (t, n.toNatClampNeg)) | _, _ => none) else none
  | .anewarray i => if al = true then (match (zq_nps.getD o []).lookup i, st with
    | some e, .int n :: r => if n < 0 ∨ 100000 < n.toNatClampNeg then none else if e.1 = 4 then some (pc + 3, lv, .ref (64 + h.1.length) :: r, zq_mk h (5, n.toNatClampNeg)) else if e.1 = 2 then some (pc + 3, lv, .ref (64 + h.1.length) :: r, zq_mk h (6, n.toNatClampNeg)) else none | _, _ => none) else none
  | _ => none
def zq_cat (st : List Value) : Nat := (st.map fun v => v.category).sum
/-- the three methods that are taken as one step: max, min, Object's constructor -/
def zq_ga (d o : Nat) (ins : Instr) (pc : Nat) (lv : List (Option Value)) (st : List Value) (h : zH) : Option zC := if d = 0 then none else match ins with
  | .invokestatic i => match (zq_pps.getD o []).lookup i with
    | some e => if e.1 = 1000 then (match st with | .int y :: .int x :: r => if zq_cat r ≤ 8 then some (pc + 3, lv, .int (if x < y then y else x) :: r, h) else none | _ => none)
      else if e.1 = 1001 then (match st with | .int y :: .int x :: r => if zq_cat r ≤ 8 then some (pc + 3, lv, .int (if y < x then y else x) :: r, h) else none | _ => none) else none
    | none => none
  | .invokespecial i => match (zq_pps.getD o []).lookup i with
    | some e => if e.1 = 1002 then (match st with | .ref _ :: r => if zq_cat r ≤ 8 then some (pc + 3, lv, r, h) else none | _ => none) else none
    | none => none
  | _ => none
def zq_stp (sc : zX) (al : Bool) (d o : Nat) (ini : Bool) (ins : Instr) (pc : Nat) (lv : List (Option Value)) (st : List Value) (h : zH) : Option zC := match ins with
  | .iconst _ | .bipush _ | .sipush _ | .lconst _ | .aconst_null | .ldc2_w _ | .ldc_w _ | .iload _ | .iload_n _ | .lload _ | .lload_n _ => zq_g1 o ins pc lv st h
  | .aload _ | .aload_n _ | .istore _ | .istore_n _ | .lstore _ | .lstore_n _ | .astore _ | .astore_n _ | .iinc _ _ => zq_g2 ins pc lv st h
  | .iadd | .isub | .imul | .iand | .ior | .ixor | .idiv | .irem | .ineg | .ishl | .ishr => zq_g3 ins pc lv st h
  | .ladd | .lsub | .lmul | .land | .lor | .ldiv | .lrem | .lshl | .lshr | .lcmp => zq_g4 ins pc lv st h
  | .i2l | .l2i | .i2c | .iushr | .dup | .dup2 | .goto _ | .ifnull _ | .if_acmp _ _ => zq_g5 ins pc lv st h
  | .ifCond _ _ | .if_icmp _ _ | .tableswitch _ _ _ _ => zq_g6 ins pc lv st h
  | .getfield _ | .putfield _ | .getstatic _ => zq_g7 o ini ins pc lv st h
  | .iaload | .caload | .baload | .laload | .aaload | .arraylength | .iastore | .castore | .bastore | .lastore | .aastore => zq_g8 sc ins pc lv st h
  | .new _ | .newarray _ | .anewarray _ => zq_g9 al o ins pc lv st h
  | .invokestatic _ | .invokespecial _ => zq_ga d o ins pc lv st h
  | _ => none
/-- the end of a method -/
def zq_ret (rt : Option FieldType) (ins : Instr) (st : List Value) : Option (Option Value) := match ins, rt, st with
  | .ireturn, some ty, [.int v] => if zq_fit ty v = true then some (some (.int v)) else none
  | .lreturn, some .long, [.long v] => some (some (.long v))
  | .areturn, some (.object _), [.ref v] => some (some (.ref v))
  | .areturn, some (.object _), [.null] => some (some .null)
  | .return_, none, [] => some none
  | _, _, _ => none
def zq_sls : List Value → List (Option Value)
  | [] => []
  | .long x :: r => some (.long x) :: none :: zq_sls r
  | .double x :: r => some (.double x) :: none :: zq_sls r
  | v :: r => some v :: zq_sls r
def zq_rcv (st : List Value) (n : Nat) (h : zH) (ci : Nat) : Bool := match st[n - 1]? with
  | some (.ref a) => decide (zq_kd h a = some (0, ci)) | _ => false
/-- a call: which method, its arguments, what stays on the stack -/
def zq_cal (o : Nat) (ins : Instr) (st : List Value) (h : zH) : Option (Nat × List Value × List Value) :=
  match (match ins with | .invokestatic i => some (i, 0) | .invokevirtual i => some (i, 1) | .invokespecial i => some (i, 2) | _ => none) with
  | none => none
  | some (i, kd) => match (zq_pps.getD o []).lookup i with
    | none => none
    | some e => match zq_MT[e.1]? with
      | none => none
      | some q => if q.2.2.2.2.2.2 = kd ∧ q.2.2.2.2.2.1 ≤ st.length ∧ zq_cat (st.drop q.2.2.2.2.2.1) ≤ 8 ∧ (zq_sls (st.take q.2.2.2.2.2.1).reverse).length ≤ q.2.2.1 ∧ (kd = 0 ∨ zq_rcv st q.2.2.2.2.2.1 h q.2.2.2.2.1 = true) then some (e.1, (st.take q.2.2.2.2.2.1).reverse, st.drop q.2.2.2.2.2.1) else none
def zq_ent (maxL : Nat) (as : List Value) : List (Option Value) := zq_sls as ++ List.replicate (maxL - (zq_sls as).length) none
def zq_own (k : Nat) : Nat := if k = 265 then 11 else (zq_MT.getD k zq_m0).2.2.2.2.1
def zq_maxL (k : Nat) : Nat := (zq_MT.getD k zq_m0).2.2.1
def zq_rt (k : Nat) : Option FieldType := if k = 265 then none else (zq_MT.getD k zq_m0).2.2.2.1
def zq_ini (k : Nat) : Bool := decide ((zq_MT.getD k zq_m0).2.2.2.2.2.2 = 2)
def zq_run (sc : zX) (al : Bool) : Nat → Nat → Nat → Nat → List (Option Value) → List Value → zH → Option (Option Value × zH)
  | 0, _, _, _, _, _, _ => none
  | n + 1, d, k, pc, lv, st, h => match zq_code k pc with
    | none => none
    | some (ins, _) => match zq_stp sc al d (zq_own k) (zq_ini k) ins pc lv st h with
      | some c => zq_run sc al n d k c.1 c.2.1 c.2.2.1 c.2.2.2
      | none => match zq_ret (zq_rt k) ins st with
        | some v => some (v, h)
        | none => match zq_cal (zq_own k) ins st h with
          | none => none
          | some (k', as, rest) => match d with
            | 0 => none
            | d' + 1 => match zq_run sc al n d' k' 0 (zq_ent (zq_maxL k') as) [] h with
              | none => none
              | some (v, h') => zq_run sc al n (d' + 1) k (pc + 3) lv (v.toList ++ rest) h'
end
section
/-! the small machine is the machine: pictures of its store, and one step of it -/
def zq_adr (sz : Nat) (ad : Nat → Nat) (i : Nat) : Nat := if i < 64 then ad i else sz + (i - 64)
def zq_tr (sz : Nat) (ad : Nat → Nat) (v : Value) : Value := match v with
  | .ref i => .ref (zq_adr sz ad i)
  | v => v
def zq_tys (cA : Nat → ClassId) : List (ClassId × FieldType) := [(cA 1, .int), (cA 2, .long), (cA 3, .char), (cA 4, .boolean), (cA 5, .object "RaffleArmy$State"), (cA 6, .object "RaffleArmy$Notes")]
def zq_ce (cA : Nat → ClassId) (sz : Nat) (ad : Nat → Nat) (kd : zK) (s : zS) (i : Nat) : va_E := match kd with
  | (0, ci) => .inr (ci, (List.range (zq_N ci)).map (fun k => zq_tr sz ad (zq_fv (zq_tag (zq_ty ci k)) s i k)))
  | (1, n) => .inl (cA 1, n, .inl (s.1 i))
  | (2, n) => .inl (cA 2, n, .inr (.inl (s.2.1 i)))
  | (3, n) => .inl (cA 3, n, .inl (s.1 i))
  | (4, n) => .inl (cA 4, n, .inl (s.1 i))
  | (t, n) => .inl (cA t, n, .inr (.inr (.inr (.inr (fun k => (s.2.2 i k).map (zq_adr sz ad))))))
def zq_ws (cA : Nat → ClassId) (sz : Nat) (ad : Nat → Nat) (h : zH) : va_W := h.1.mapIdx (fun j kd => (sz + j, zq_ce cA sz ad kd h.2 (64 + j)))
theorem zq_ws_get {cA : Nat → ClassId} {sz : Nat} {ad : Nat → Nat} {h : zH} {j : Nat} {kd : zK} (hj : h.1[j]? = some kd) : (zq_ws cA sz ad h)[j]? = some (sz + j, zq_ce cA sz ad kd h.2 (64 + j)) := by
  unfold zq_ws
  rw [List.getElem?_mapIdx, hj]
  rfl
theorem zq_kd_at {h : zH} {o : Nat} {kd : zK} (hk : zq_kd h o = some kd) : ∃ j, o = 64 + j ∧ h.1[j]? = some kd := by
  unfold zq_kd at hk
  split at hk
  · exact ⟨o - 64, by omega, hk⟩
  · cases hk
theorem zq_adr_new (sz : Nat) (ad : Nat → Nat) (j : Nat) : zq_adr sz ad (64 + j) = sz + j := by
  unfold zq_adr
  rw [if_neg (by omega)]
  congr 1
  omega
theorem zq_D (cA : Nat → ClassId) (sz : Nat) (ad : Nat → Nat) (h : zH) : va_D (fun q => sz ≤ q) (zq_ws cA sz ad h) := by
  refine ⟨fun i j p q hi hj hpq => ?_, fun k q hk => ?_⟩
  · unfold zq_ws at hi hj
    rw [List.getElem?_mapIdx] at hi hj
    cases h1 : h.1[i]? with
    | none => rw [h1] at hi; cases hi
    | some a =>
      cases h2 : h.1[j]? with
      | none => rw [h2] at hj; cases hj
      | some b =>
        rw [h1] at hi; rw [h2] at hj
        cases hi; cases hj
        have h3 : sz + i = sz + j := hpq
        omega
  · unfold zq_ws at hk
    rw [List.getElem?_mapIdx] at hk
    cases h1 : h.1[k]? with
    | none => rw [h1] at hk; cases hk
    | some a => rw [h1] at hk; cases hk; exact Nat.le_add_right _ _
theorem zq_ce_row {cA : Nat → ClassId} {sz : Nat} {ad : Nat → Nat} {kd : zK} {s s' : zS} {i : Nat} (h1 : s'.1 i = s.1 i) (h2 : s'.2.1 i = s.2.1 i) (h3 : s'.2.2 i = s.2.2 i) : zq_ce cA sz ad kd s' i = zq_ce cA sz ad kd s i := by
  have hf : ∀ t k, zq_fv t s' i k = zq_fv t s i k := by
    intro t k
    unfold zq_fv
    split
    · rw [h1]
    · rw [h2]
    · rw [h3]
  unfold zq_ce
  split
  · simp only [hf]
  · rw [h1]
  · rw [h2]
  · rw [h1]
  · rw [h1]
  · rw [h3]
theorem zq_ws_set {cA : Nat → ClassId} {sz : Nat} {ad : Nat → Nat} {h : zH} {j : Nat} {kd : zK} {s' : zS} (hj : h.1[j]? = some kd) (hr : ∀ i, i ≠ 64 + j → s'.1 i = h.2.1 i ∧ s'.2.1 i = h.2.2.1 i ∧ s'.2.2 i = h.2.2.2 i) :
    zq_ws cA sz ad (h.1, s') = (zq_ws cA sz ad h).set j (sz + j, zq_ce cA sz ad kd s' (64 + j)) := by
  apply List.ext_getElem?
  intro k
  unfold zq_ws
  rw [List.getElem?_mapIdx, List.getElem?_set, List.getElem?_mapIdx]
  by_cases hk : j = k
  · subst hk
    have hlt : j < (List.mapIdx (fun j kd => (sz + j, zq_ce cA sz ad kd h.2 (64 + j))) h.1).length := by
      rw [List.length_mapIdx]
      exact (List.getElem?_eq_some_iff.mp hj).1
    rw [if_pos rfl, if_pos hlt]
    show Option.map _ h.1[j]? = _
    rw [hj]
    rfl
  · rw [if_neg hk]
    show Option.map _ h.1[k]? = _
    cases h.1[k]? with
    | none => rfl
    | some b =>
      obtain ⟨r1, r2, r3⟩ := hr (64 + k) (by omega)
      show some (sz + k, zq_ce cA sz ad b s' (64 + k)) = some (sz + k, zq_ce cA sz ad b h.2 (64 + k))
      rw [zq_ce_row r1 r2 r3]
theorem zq_ws_app {cA : Nat → ClassId} {sz : Nat} {ad : Nat → Nat} (h : zH) (kd : zK) : zq_ws cA sz ad (zq_mk h kd) = zq_ws cA sz ad h ++ [(sz + h.1.length, zq_ce cA sz ad kd (zq_z0 h.2 (64 + h.1.length)) (64 + h.1.length))] := by
  unfold zq_ws zq_mk
  rw [List.mapIdx_append]
  congr 1
  · apply List.ext_getElem?
    intro k
    rw [List.getElem?_mapIdx, List.getElem?_mapIdx]
    cases hb : h.1[k]? with
    | none => rfl
    | some b =>
      have hlt : k < h.1.length := (List.getElem?_eq_some_iff.mp hb).1
      show some (sz + k, zq_ce cA sz ad b (zq_z0 h.2 (64 + h.1.length)) (64 + k)) = some (sz + k, zq_ce cA sz ad b h.2 (64 + k))
      have hne : ¬ (64 + k = 64 + h.1.length) := by omega
      rw [zq_ce_row (s := h.2)]
      · funext b; exact if_neg hne
      · funext b; exact if_neg hne
      · funext b; exact if_neg hne
  · simp
/-- the locals -/
def zq_pr (sz : Nat) (ad : Nat → Nat) (lv : List (Option Value)) : List (Nat × Value) := (List.range lv.length).filterMap (fun i => (zq_ld lv i).map (fun v => (i, zq_tr sz ad v)))
theorem zq_ld_lt {lv : List (Option Value)} {i : Nat} {v : Value} (h : zq_ld lv i = some v) : lv[i]? = some (some v) := by
  unfold zq_ld at h
  split at h
  next w hw => cases h; exact hw
  next => cases h
theorem zq_pr_mem {sz : Nat} {ad : Nat → Nat} {lv : List (Option Value)} {i : Nat} {w : Value} : (i, w) ∈ zq_pr sz ad lv ↔ ∃ v, zq_ld lv i = some v ∧ w = zq_tr sz ad v := by
  unfold zq_pr
  rw [List.mem_filterMap]
  constructor
  · rintro ⟨j, -, h⟩
    cases hv : zq_ld lv j with
    | none => rw [hv] at h; cases h
    | some v =>
      rw [hv] at h
      cases h
      exact ⟨v, hv, rfl⟩
  · rintro ⟨v, hv, rfl⟩
    refine ⟨i, List.mem_range.mpr ?_, by rw [hv]; rfl⟩
    exact (List.getElem?_eq_some_iff.mp (zq_ld_lt hv)).1
def zq_lr (sz : Nat) (ad : Nat → Nat) (ls : Array Slot) (nL : Nat) (lv : List (Option Value)) : Prop := lv_has ls nL (zq_pr sz ad lv) ∧ lv.length = nL
theorem zq_lr_at {sz : Nat} {ad : Nat → Nat} {ls : Array Slot} {nL : Nat} {lv : List (Option Value)} {i : Nat} {v : Value} (h : zq_lr sz ad ls nL lv) (hv : zq_ld lv i = some v) : ls[i]? = some (.val (zq_tr sz ad v)) := h.1.2.2 (i, zq_tr sz ad v) (zq_pr_mem.mpr ⟨v, hv, rfl⟩)
theorem zq_tr_cat (sz : Nat) (ad : Nat → Nat) (v : Value) : (zq_tr sz ad v).category = v.category := by cases v <;> rfl
theorem zq_ld_set {lv : List (Option Value)} {i j : Nat} {x : Option Value} (h : i < lv.length) : zq_ld (lv.set i x) j = if i = j then x else zq_ld lv j := by
  unfold zq_ld
  rw [List.getElem?_set]
  by_cases hij : i = j
  · subst hij
    rw [if_pos rfl, if_pos h, if_pos rfl]
    cases x <;> rfl
  · rw [if_neg hij, if_neg hij]
theorem zq_clr_len (lv : List (Option Value)) (i : Nat) : (zq_clr lv i).length = lv.length := by
  unfold zq_clr
  split
  · rfl
  · split
    · rfl
    · split
      · rw [List.length_set]
      · rw [List.length_set]
      · rfl
theorem zq_clr_ld {lv : List (Option Value)} {i j : Nat} {v : Value} (h : zq_ld (zq_clr lv i) j = some v) : zq_ld lv j = some v ∧ (j + 1 = i → v.category = 2 → ∃ w, zq_ld lv i = some w) := by
  unfold zq_clr at h
  split at h
  next w hw => exact ⟨h, fun _ _ => ⟨w, by unfold zq_ld; rw [hw]⟩⟩
  next hn =>
    split at h
    next => exact ⟨h, fun hj => by omega⟩
    next k =>
      split at h
      next x hx =>
        rw [zq_ld_set ((List.getElem?_eq_some_iff.mp hx).1)] at h
        split at h
        · cases h
        · exact ⟨h, fun hj => by omega⟩
      next x hx =>
        rw [zq_ld_set ((List.getElem?_eq_some_iff.mp hx).1)] at h
        split at h
        · cases h
        · exact ⟨h, fun hj => by omega⟩
      next h1 h2 =>
        refine ⟨h, fun hj hc => ?_⟩
        have hjk : j = k := by omega
        subst hjk
        have h3 := zq_ld_lt h
        cases v with
        | long x => exact absurd h3 (h1 x)
        | double x => exact absurd h3 (h2 x)
        | int x => cases hc
        | float x => cases hc
        | null => cases hc
        | ref x => cases hc
        | retAddr x => cases hc
/-- a place that holds a value is not the second half of another -/
theorem zq_lr_half {sz : Nat} {ad : Nat → Nat} {ls : Array Slot} {nL : Nat} {lv : List (Option Value)} {j : Nat} {v w : Value} (h : zq_lr sz ad ls nL lv) (hv : zq_ld lv j = some v) (hc : v.category = 2) (hw : zq_ld lv (j + 1) = some w) : False := by
  have h1 := zq_lr_at h hv
  have h2 := zq_lr_at h hw
  have h3 := h.1.2.1.1 j _ h1 (by rw [zq_tr_cat]; exact hc)
  rw [h2] at h3
  cases h3
theorem zq_lr_s1 {sz : Nat} {ad : Nat → Nat} {ls ls' : Array Slot} {nL : Nat} {lv lv' : List (Option Value)} {i : Nat} {v : Value} (h : zq_lr sz ad ls nL lv) (hs : zq_s1 lv i v = some lv')
    (h' : lv_has ls' nL ((i, zq_tr sz ad v) :: (zq_pr sz ad lv).filter (fun q => !(q.1 == i) && !(q.1 + 1 == i && q.2.category == 2)))) : zq_lr sz ad ls' nL lv' := by
  unfold zq_s1 at hs
  split at hs
  next hi =>
    cases hs
    refine ⟨⟨h'.1, h'.2.1, fun q hq => ?_⟩, by rw [List.length_set, zq_clr_len]; exact h.2⟩
    obtain ⟨j, w⟩ := q
    obtain ⟨u, hu, rfl⟩ := zq_pr_mem.mp hq
    rw [zq_ld_set (by rw [zq_clr_len]; exact hi)] at hu
    by_cases hij : i = j
    · subst hij
      rw [if_pos rfl] at hu
      cases hu
      exact h'.2.2 _ List.mem_cons_self
    · rw [if_neg hij] at hu
      obtain ⟨h1, h2⟩ := zq_clr_ld hu
      refine h'.2.2 (j, zq_tr sz ad u) (List.mem_cons_of_mem _ (List.mem_filter.mpr ⟨zq_pr_mem.mpr ⟨u, h1, rfl⟩, ?_⟩))
      simp only [Bool.and_eq_true, Bool.not_eq_true', beq_eq_false_iff_ne, ne_eq]
      refine ⟨fun e => hij e.symm, ?_⟩
      rw [Bool.and_eq_false_iff]
      by_cases hji : j + 1 = i
      · right
        rw [beq_eq_false_iff_ne]
        intro hc
        rw [zq_tr_cat] at hc
        obtain ⟨w, hw⟩ := h2 hji hc
        subst hji
        exact zq_lr_half h h1 hc hw
      · left
        rw [beq_eq_false_iff_ne]
        exact hji
  next => cases hs
theorem zq_lr_s2 {sz : Nat} {ad : Nat → Nat} {ls ls' : Array Slot} {nL : Nat} {lv lv' : List (Option Value)} {i : Nat} {v : Value} (h : zq_lr sz ad ls nL lv) (hs : zq_s2 lv i v = some lv')
    (h' : lv_has ls' nL ((i, zq_tr sz ad v) :: (zq_pr sz ad lv).filter (fun q => !(q.1 == i) && (!(q.1 == i + 1) && !(q.1 + 1 == i && q.2.category == 2))))) : zq_lr sz ad ls' nL lv' := by
  unfold zq_s2 at hs
  split at hs
  next hi =>
    cases hs
    refine ⟨⟨h'.1, h'.2.1, fun q hq => ?_⟩, by rw [List.length_set, List.length_set, zq_clr_len]; exact h.2⟩
    obtain ⟨j, w⟩ := q
    obtain ⟨u, hu, rfl⟩ := zq_pr_mem.mp hq
    rw [zq_ld_set (by rw [List.length_set, zq_clr_len]; exact hi)] at hu
    by_cases hij2 : i + 1 = j
    · rw [if_pos hij2] at hu; cases hu
    rw [if_neg hij2, zq_ld_set (by rw [zq_clr_len]; omega)] at hu
    by_cases hij : i = j
    · subst hij
      rw [if_pos rfl] at hu
      cases hu
      exact h'.2.2 _ List.mem_cons_self
    · rw [if_neg hij] at hu
      obtain ⟨h1, h2⟩ := zq_clr_ld hu
      refine h'.2.2 (j, zq_tr sz ad u) (List.mem_cons_of_mem _ (List.mem_filter.mpr ⟨zq_pr_mem.mpr ⟨u, h1, rfl⟩, ?_⟩))
      simp only [Bool.and_eq_true, Bool.not_eq_true', beq_eq_false_iff_ne, ne_eq]
      refine ⟨fun e => hij e.symm, fun e => hij2 e.symm, ?_⟩
      rw [Bool.and_eq_false_iff]
      by_cases hji : j + 1 = i
      · right
        rw [beq_eq_false_iff_ne]
        intro hc
        rw [zq_tr_cat] at hc
        obtain ⟨w, hw⟩ := h2 hji hc
        subst hji
        exact zq_lr_half h h1 hc hw
      · left
        rw [beq_eq_false_iff_ne]
        exact hji
  next => cases hs
theorem zq_s1_lt {lv lv' : List (Option Value)} {i : Nat} {v : Value} (hs : zq_s1 lv i v = some lv') : i < lv.length := by
  unfold zq_s1 at hs
  split at hs
  · assumption
  · cases hs
theorem zq_s2_lt {lv lv' : List (Option Value)} {i : Nat} {v : Value} (hs : zq_s2 lv i v = some lv') : i + 1 < lv.length := by
  unfold zq_s2 at hs
  split at hs
  · assumption
  · cases hs
theorem zq_sls_len (sz : Nat) (ad : Nat → Nat) (as : List Value) : (lg_sl (as.map (zq_tr sz ad))).length = (zq_sls as).length := by
  induction as with
  | nil => rfl
  | cons a r ih =>
    have e1 : ∀ (v : Value) (vs : List Value), lg_sl (v :: vs) = (if v.category = 2 then [Slot.val v, .second] else [Slot.val v]) ++ lg_sl vs := fun v vs => List.flatMap_cons
    rw [List.map_cons, e1, List.length_append, ih, zq_tr_cat]
    cases a with
    | long x => show 2 + (zq_sls r).length = (zq_sls r).length + 1 + 1; omega
    | double x => show 2 + (zq_sls r).length = (zq_sls r).length + 1 + 1; omega
    | int x => show 1 + (zq_sls r).length = (zq_sls r).length + 1; omega
    | float x => show 1 + (zq_sls r).length = (zq_sls r).length + 1; omega
    | null => show 1 + (zq_sls r).length = (zq_sls r).length + 1; omega
    | ref x => show 1 + (zq_sls r).length = (zq_sls r).length + 1; omega
    | retAddr x => show 1 + (zq_sls r).length = (zq_sls r).length + 1; omega
theorem zq_sls_ld (sz : Nat) (ad : Nat → Nat) (pad : Nat) (as : List Value) : ∀ (off i : Nat) (v : Value), zq_ld (zq_sls as ++ List.replicate pad none) i = some v → (off + i, zq_tr sz ad v) ∈ lv_args off (as.map (zq_tr sz ad)) := by
  induction as with
  | nil =>
    intro off i v h
    have h1 := zq_ld_lt h
    simp [zq_sls, List.getElem?_replicate] at h1
  | cons a r ih =>
    have one : a.category = 1 → zq_sls (a :: r) = some a :: zq_sls r → ∀ (off i : Nat) (v : Value), zq_ld (zq_sls (a :: r) ++ List.replicate pad none) i = some v → (off + i, zq_tr sz ad v) ∈ lv_args off ((a :: r).map (zq_tr sz ad)) := by
      intro hc he off i v h
      have h1 := zq_ld_lt h
      rw [he] at h1
      show (off + i, zq_tr sz ad v) ∈ (off, zq_tr sz ad a) :: lv_args (if (zq_tr sz ad a).category = 2 then off + 2 else off + 1) (r.map (zq_tr sz ad))
      rw [zq_tr_cat, hc, if_neg (by decide)]
      cases i with
      | zero =>
        simp at h1
        subst h1
        exact List.mem_cons_self
      | succ j =>
        have h2 : zq_ld (zq_sls r ++ List.replicate pad none) j = some v := by
          unfold zq_ld
          rw [List.cons_append, List.getElem?_cons_succ] at h1
          rw [h1]
        have h3 := ih (off + 1) j v h2
        rw [show off + (j + 1) = off + 1 + j by omega]
        exact List.mem_cons_of_mem _ h3
    have two : a.category = 2 → zq_sls (a :: r) = some a :: none :: zq_sls r → ∀ (off i : Nat) (v : Value), zq_ld (zq_sls (a :: r) ++ List.replicate pad none) i = some v → (off + i, zq_tr sz ad v) ∈ lv_args off ((a :: r).map (zq_tr sz ad)) := by
      intro hc he off i v h
      have h1 := zq_ld_lt h
      rw [he] at h1
      show (off + i, zq_tr sz ad v) ∈ (off, zq_tr sz ad a) :: lv_args (if (zq_tr sz ad a).category = 2 then off + 2 else off + 1) (r.map (zq_tr sz ad))
      rw [zq_tr_cat, hc, if_pos rfl]
      match i, h1 with
      | 0, h1 =>
        simp at h1
        subst h1
        exact List.mem_cons_self
      | 1, h1 => simp at h1
      | j + 2, h1 =>
        have h2 : zq_ld (zq_sls r ++ List.replicate pad none) j = some v := by
          unfold zq_ld
          rw [List.cons_append, List.getElem?_cons_succ, List.cons_append, List.getElem?_cons_succ] at h1
          rw [h1]
        have h3 := ih (off + 2) j v h2
        rw [show off + (j + 2) = off + 2 + j by omega]
        exact List.mem_cons_of_mem _ h3
    cases a with
    | int x => exact one rfl rfl
    | long x => exact two rfl rfl
    | float x => exact one rfl rfl
    | double x => exact two rfl rfl
    | null => exact one rfl rfl
    | ref x => exact one rfl rfl
    | retAddr x => exact one rfl rfl
theorem zq_lr_ent (sz : Nat) (ad : Nat → Nat) (as : List Value) (maxL : Nat) (h : (zq_sls as).length ≤ maxL) : (lg_sl (as.map (zq_tr sz ad))).length ≤ maxL ∧ zq_lr sz ad ((lg_sl (as.map (zq_tr sz ad)) ++ List.replicate (maxL - (lg_sl (as.map (zq_tr sz ad))).length) Slot.unset).toArray) maxL (zq_ent maxL as) := by
  have h0 : (lg_sl (as.map (zq_tr sz ad))).length ≤ maxL := by rw [zq_sls_len]; exact h
  refine ⟨h0, ?_, ?_⟩
  · have h1 := lv_entry (as.map (zq_tr sz ad)) h0
    refine ⟨h1.1, h1.2.1, fun q hq => ?_⟩
    obtain ⟨i, w⟩ := q
    obtain ⟨v, hv, rfl⟩ := zq_pr_mem.mp hq
    have h2 := zq_sls_ld sz ad _ as 0 i v hv
    rw [Nat.zero_add] at h2
    exact h1.2.2 _ h2
  · unfold zq_ent
    rw [List.length_append, List.length_replicate]
    omega
theorem zq_icof (n : Int) : Int32.ofInt n = zq_ic n := by
  unfold zq_ic
  split
  · rfl
  · rename_i k
    rw [Int.negSucc_eq, Int32.ofInt_neg]
    rfl
theorem zq_ic8 {n : Int} (h : zq_r8 n = true) : (Int8.ofInt n).toInt32 = zq_ic n := by
  have hb : -128 ≤ n ∧ n < 128 := by
    unfold zq_r8 at h
    split at h
    · have := Nat.le_of_ble_eq_true h; rename_i k; simp only [Int.ofNat_eq_natCast]; omega
    · have := Nat.le_of_ble_eq_true h; rename_i k; omega
  rw [← zq_icof]
  apply Int32.toInt_inj.mp
  rw [Int8.toInt_toInt32, Int8.toInt_ofInt_of_le (by omega) (by omega), Int32.toInt_ofInt_of_le (by omega) (by omega)]
theorem zq_ic16 {n : Int} (h : zq_r16 n = true) : (Int16.ofInt n).toInt32 = zq_ic n := by
  have hb : -32768 ≤ n ∧ n < 32768 := by
    unfold zq_r16 at h
    split at h
    · have := Nat.le_of_ble_eq_true h; rename_i k; simp only [Int.ofNat_eq_natCast]; omega
    · have := Nat.le_of_ble_eq_true h; rename_i k; omega
  rw [← zq_icof]
  apply Int32.toInt_inj.mp
  rw [Int16.toInt_toInt32, Int16.toInt_ofInt_of_le (by omega) (by omega), Int32.toInt_ofInt_of_le (by omega) (by omega)]
end
section
/-! one step of the small machine is one step of the machine -/
def zq_ln (ins : Instr) : Option Nat := match ins with
  | .iconst _ | .lconst _ | .aconst_null | .iload_n _ | .lload_n _ | .aload_n _ | .istore_n _ | .lstore_n _ | .astore_n _ => some 1
  | .bipush _ | .iload _ | .lload _ | .aload _ | .istore _ | .lstore _ | .astore _ | .newarray _ => some 2
  | .sipush _ | .ldc2_w _ | .ldc_w _ | .iinc _ _ | .goto _ | .ifnull _ | .if_acmp _ _ | .ifCond _ _ | .if_icmp _ _ => some 3
  | .getfield _ | .putfield _ | .getstatic _ | .new _ | .anewarray _ | .invokestatic _ | .invokespecial _ | .invokevirtual _ => some 3
  | .tableswitch _ _ _ _ => none
  | _ => some 1
def zq_lnk (ins : Instr) (len : Nat) : Bool := match zq_ln ins with
  | some k => k == len
  | none => true
theorem zq_dl {cc : ByteArray} {pc len k : Nat} {ins : Instr} (hd : decode cc pc = .ok (ins, len)) (hn : zq_lnk ins len = true) (h : zq_ln ins = some k) : decode cc pc = .ok (ins, k) := by
  unfold zq_lnk at hn
  rw [h] at hn
  rw [hd]
  rw [beq_iff_eq] at hn
  rw [hn]
theorem zq_lk {α : Type} {l : List (Nat × α)} {k : Nat} {b : α} (h : l.lookup k = some b) : (k, b) ∈ l := by
  induction l with
  | nil => cases h
  | cons x r ih =>
    obtain ⟨a, y⟩ := x
    rw [List.lookup_cons] at h
    split at h
    next he =>
      rw [beq_iff_eq] at he
      cases h
      subst he
      exact List.mem_cons_self
    next => exact List.mem_cons_of_mem _ (ih h)
theorem zq_tgt {pc t : Nat} {off : Int} (h : zq_tg pc off = some t) : (pc : Int) + off = (t : Int) := by
  unfold zq_tg at h
  split at h
  next x hx => cases h; exact hx
  next => cases h
def zq_env (dC : Nat → ClassId) (dI : Nat → Nat → Nat) (cA : Nat → ClassId) (sz : Nat) (ad : Nat → Nat) (sc : zX) (U : State) (H : Heap) : Prop :=
  va_K (dC, dI) zq_cl (zq_tys cA) U ∧
  (∀ o, o < 14 → ∀ e ∈ zq_pps.getD o [], e.2.2.2 ≠ 0 → va_Nw (.methodLinkNest (zq_R o) e.1 (zq_spl e.2.1) "RaffleArmy") U) ∧
  va_Nw (.fieldLinkNest "RaffleArmy$Tape" 60 "RaffleArmy" "WORDS" "[LRaffleArmy$Word;" "RaffleArmy") U ∧
  (va_AO "RaffleArmy$State" U ∧ va_AO "RaffleArmy$Notes" U) ∧
  (∀ i, i < 36 → va_Z "RaffleArmy$Word" (zq_wN.getD i "") "LRaffleArmy$Word;" (.ref (ad i)) (fun q => sz ≤ q) U H) ∧
  va_Z "RaffleArmy" "WORDS" "[LRaffleArmy$Word;" (.ref (ad 36)) (fun q => sz ≤ q) U H ∧
  va_T (.object "RaffleArmy$Word") (ad 36) 36 (fun j => .ref (ad j)) (fun q => sz ≤ q) U H ∧
  va_Ef 36 "RaffleArmy$Word" "code" "J" (fun i => .long (zq_wC.getD i 0)) ad (fun q => sz ≤ q) U H ∧
  va_Ef 36 "RaffleArmy$Word" "use" "I" (fun i => .int (zq_wU.getD i 0)) ad (fun q => sz ≤ q) U H ∧
  va_Ef 36 "RaffleArmy$Word" "which" "I" (fun i => .int (zq_wW.getD i 0)) ad (fun q => sz ≤ q) U H ∧
  (va_X (ad 37) sc.1 sc.2 U H ∧ ad 37 < H.size ∧ ad 37 < sz) ∧
  (∀ i j, i < 38 → j < 38 → ad i = ad j → i = j) ∧ (∀ i, i < 38 → ad i < sz) ∧ sz ≤ H.size
theorem zq_env.moved {dC : Nat → ClassId} {dI : Nat → Nat → Nat} {cA : Nat → ClassId} {sz : Nat} {ad : Nat → Nat} {sc : zX} {u U : State} {H H1 : Heap} (hW : u.WarmedH U.vm) (hz : H.size ≤ H1.size) (hq : ∀ a : Nat, a < H.size → ¬ sz ≤ a → H1[a]? = H[a]?) (h : zq_env dC dI cA sz ad sc u H) : zq_env dC dI cA sz ad sc U H1 := by
  obtain ⟨h1, h2, h3, ⟨h4, h5⟩, h6, h7, h8, h9, h10, h11, ⟨h12, h13, h14⟩, h15, h16, h17⟩ := h
  have hvm : u.vm.Alike U.vm := hW.alike
  exact ⟨h1.moved hvm, fun o ho e he hne => va_Nw.warmM hW (h2 o ho e he hne), va_Nw.warmF hW h3, ⟨h4.moved hvm, h5.moved hvm⟩, fun i hi => ((h6 i hi).moved hvm).kept hq, (h7.moved hvm).kept hq, (h8.moved hvm).kept hq, (h9.moved hvm).kept hq, (h10.moved hvm).kept hq, (h11.moved hvm).kept hq, ⟨(h12.moved hvm).kept (hq _ h13 (by omega)), Nat.lt_of_lt_of_le h13 hz, h14⟩, h15, h16, Nat.le_trans h17 hz⟩
theorem zq_env.calling {dC : Nat → ClassId} {dI : Nat → Nat → Nat} {cA : Nat → ClassId} {sz : Nat} {ad : Nat → Nat} {sc : zX} {U : State} {g : JFrame} {mk : MethodId} {a : Array Value} (h : zq_env dC dI cA sz ad sc U U.heap) : zq_env dC dI cA sz ad sc (U.calling g mk a) (U.calling g mk a).heap := by
  obtain ⟨h1, h2, h3, ⟨h4, h5⟩, h6, h7, h8, h9, h10, h11, ⟨h12, h13, h14⟩, h15, h16, h17⟩ := h
  have hvm : U.vm.Alike (U.calling g mk a).vm := Vm.Alike.refl U.vm
  have hq : ∀ a1 : Nat, a1 < U.heap.size → ¬ sz ≤ a1 → (U.calling g mk a).heap[a1]? = U.heap[a1]? := fun _ _ _ => rfl
  exact ⟨h1.moved hvm, fun o ho e he hne => va_Nw.same rfl rfl (h2 o ho e he hne), va_Nw.same rfl rfl h3, ⟨h4.moved hvm, h5.moved hvm⟩, fun i hi => ((h6 i hi).moved hvm).kept hq, (h7.moved hvm).kept hq, (h8.moved hvm).kept hq, (h9.moved hvm).kept hq, (h10.moved hvm).kept hq, (h11.moved hvm).kept hq, ⟨(h12.moved hvm).kept rfl, h13, h14⟩, h15, h16, h17⟩
def zq_cx (dC : Nat → ClassId) (dI : Nat → Nat → Nat) (cA : Nat → ClassId) (sz : Nat) (ad : Nat → Nat) (sc : zX) (p : Program) (s : State) (m : MethodId) (args : Array Value) (meth : Method) (c : Code) (cc : ByteArray) (nL o : Nat) (ini : Bool) : Prop :=
  p.tables.exec = Jvm.exec ∧ c.code = cc ∧ c.maxLocals = nL ∧ s.vm.findClass (zq_R o) = some m.cls ∧ (∀ w ∈ zq_WG, w.before args s = true) ∧ zq_env dC dI cA sz ad sc s s.heap ∧ (ini = true → meth.name = "<init>") ∧ o < 14
section ZG
variable {dC : Nat → ClassId} {dI : Nat → Nat → Nat} {cA : Nat → ClassId} {sz : Nat} {ad : Nat → Nat} {sc : zX}
variable {p : Program} {l : Launch} {e : Env} {R : Room} {s : State} {m : MethodId} {args : Array Value} {below : List Frame} {meth : Method} {c : Code} {H : Heap} {locs : List Loc} {cells slots : Nat} {Q : State → Prop}
variable {cc : ByteArray} {ls : Array Slot} {nL pc o len : Nat} {ini : Bool} {ins : Instr} {lv : List (Option Value)} {st : List Value} {h : zH} {c' : zC}
theorem zq_g1_ok (cx : zq_cx dC dI cA sz ad sc p s m args meth c cc nL o ini) (hd : decode cc pc = .ok (ins, len)) (hn : zq_lnk ins len = true) (hg : zq_g1 o ins pc lv st h = some c') (hl : zq_lr sz ad ls nL lv)
    (kk : c'.2.1 = lv → c'.2.2.2 = h → W p l e R s m args below meth c H locs cells slots Q (F0 m c'.1 ls (c'.2.2.1.map (zq_tr sz ad)))) : W p l e R s m args below meth c H locs cells slots Q (F0 m pc ls (st.map (zq_tr sz ad))) := by
  obtain ⟨hx, hb, hml, hown, hts, henv, hin, ho⟩ := cx
  unfold zq_g1 at hg
  split at hg
  · cases hg
    exact lv_iconst hx hb (zq_dl hd hn rfl) (zq_icof _) (kk rfl rfl)
  · split at hg
    next h8 => cases hg; exact lv_bipush hx hb (zq_dl hd hn rfl) (zq_ic8 h8) (kk rfl rfl)
    next => cases hg
  · split at hg
    next h8 => cases hg; exact lv_sipush hx hb (zq_dl hd hn rfl) (zq_ic16 h8) (kk rfl rfl)
    next => cases hg
  · cases hg
    exact lv_lconst hx hb (zq_dl hd hn rfl) rfl (kk rfl rfl)
  · cases hg
    exact lv_null hx hb (zq_dl hd hn rfl) (kk rfl rfl)
  · split at hg
    next e1 he => cases hg; exact lv_ldc2 hx hb hown (hts _ (zq_in (zq_jpk o ho _ (zq_lk he)))) (zq_dl hd hn rfl) (kk rfl rfl)
    next => cases hg
  · split at hg
    next e1 he => cases hg; exact lv_ldcw hx hb hown (hts _ (zq_in (zq_ipk o ho _ (zq_lk he)))) (zq_dl hd hn rfl) (kk rfl rfl)
    next => cases hg
  · split at hg
    next x hv => cases hg; exact lv_iload hx hb (zq_dl hd hn rfl) (zq_lr_at hl hv) (kk rfl rfl)
    next => cases hg
  · split at hg
    next x hv => cases hg; exact lv_iload_n hx hb (zq_dl hd hn rfl) rfl (zq_lr_at hl hv) (kk rfl rfl)
    next => cases hg
  · split at hg
    next x hv => cases hg; exact lv_lload hx hb (zq_dl hd hn rfl) (zq_lr_at hl hv) (kk rfl rfl)
    next => cases hg
  · split at hg
    next x hv => cases hg; exact lv_lload_n hx hb (zq_dl hd hn rfl) rfl (zq_lr_at hl hv) (kk rfl rfl)
    next => cases hg
  · cases hg
theorem zq_g2_ok (cx : zq_cx dC dI cA sz ad sc p s m args meth c cc nL o ini) (hd : decode cc pc = .ok (ins, len)) (hn : zq_lnk ins len = true) (hg : zq_g2 ins pc lv st h = some c') (hl : zq_lr sz ad ls nL lv)
    (kk : ∀ ls', zq_lr sz ad ls' nL c'.2.1 → c'.2.2.2 = h → W p l e R s m args below meth c H locs cells slots Q (F0 m c'.1 ls' (c'.2.2.1.map (zq_tr sz ad)))) : W p l e R s m args below meth c H locs cells slots Q (F0 m pc ls (st.map (zq_tr sz ad))) := by
  obtain ⟨hx, hb, hml, hown, hts, henv, hin, ho⟩ := cx
  have hlt : ∀ {i : Nat} {v : Value} {l' : List (Option Value)}, zq_s1 lv i v = some l' → i < nL := fun h1 => by rw [← hl.2]; exact zq_s1_lt h1
  have hlt2 : ∀ {i : Nat} {v : Value} {l' : List (Option Value)}, zq_s2 lv i v = some l' → i + 1 < nL := fun h1 => by rw [← hl.2]; exact zq_s2_lt h1
  unfold zq_g2 at hg
  split at hg
  · split at hg
    next x hv => cases hg; exact lv_aload hx hb (zq_dl hd hn rfl) (zq_lr_at hl hv) (kk ls hl rfl)
    next hv => cases hg; exact lv_aloadN hx hb (zq_dl hd hn rfl) (zq_lr_at hl hv) (kk ls hl rfl)
    next => cases hg
  · split at hg
    next x hv => cases hg; exact lv_aload_n hx hb (zq_dl hd hn rfl) rfl (zq_lr_at hl hv) (kk ls hl rfl)
    next hv => cases hg; exact lv_aload_nN hx hb (zq_dl hd hn rfl) rfl (zq_lr_at hl hv) (kk ls hl rfl)
    next => cases hg
  · split at hg
    next x r =>
      obtain ⟨l', hs, rfl⟩ := Option.map_eq_some_iff.mp hg
      exact lv_istore hx hb (zq_dl hd hn rfl) hl.1 (hlt hs) rfl (fun ls' h' => kk ls' (zq_lr_s1 hl hs h') rfl)
    next => cases hg
  · split at hg
    next x r =>
      obtain ⟨l', hs, rfl⟩ := Option.map_eq_some_iff.mp hg
      exact lv_istore_n hx hb (zq_dl hd hn rfl) rfl hl.1 (hlt hs) rfl (fun ls' h' => kk ls' (zq_lr_s1 hl hs h') rfl)
    next => cases hg
  · split at hg
    next x r =>
      obtain ⟨l', hs, rfl⟩ := Option.map_eq_some_iff.mp hg
      exact lv_lstore hx hb (zq_dl hd hn rfl) hl.1 (hlt2 hs) rfl (fun ls' h' => kk ls' (zq_lr_s2 hl hs h') rfl)
    next => cases hg
  · split at hg
    next x r =>
      obtain ⟨l', hs, rfl⟩ := Option.map_eq_some_iff.mp hg
      exact lv_lstore_n hx hb (zq_dl hd hn rfl) rfl hl.1 (hlt2 hs) rfl (fun ls' h' => kk ls' (zq_lr_s2 hl hs h') rfl)
    next => cases hg
  · split at hg
    next x r =>
      obtain ⟨l', hs, rfl⟩ := Option.map_eq_some_iff.mp hg
      exact lv_astore hx hb (zq_dl hd hn rfl) hl.1 (hlt hs) rfl (fun ls' h' => kk ls' (zq_lr_s1 hl hs h') rfl)
    next r =>
      obtain ⟨l', hs, rfl⟩ := Option.map_eq_some_iff.mp hg
      exact lv_astoreN hx hb (zq_dl hd hn rfl) hl.1 (hlt hs) rfl (fun ls' h' => kk ls' (zq_lr_s1 hl hs h') rfl)
    next => cases hg
  · split at hg
    next x r =>
      obtain ⟨l', hs, rfl⟩ := Option.map_eq_some_iff.mp hg
      exact lv_astore_n hx hb (zq_dl hd hn rfl) rfl hl.1 (hlt hs) rfl (fun ls' h' => kk ls' (zq_lr_s1 hl hs h') rfl)
    next r =>
      obtain ⟨l', hs, rfl⟩ := Option.map_eq_some_iff.mp hg
      exact lv_astore_nN hx hb (zq_dl hd hn rfl) rfl hl.1 (hlt hs) rfl (fun ls' h' => kk ls' (zq_lr_s1 hl hs h') rfl)
    next => cases hg
  · split at hg
    next x hv =>
      obtain ⟨l', hs, rfl⟩ := Option.map_eq_some_iff.mp hg
      obtain ⟨k, hk⟩ := List.getElem?_of_mem (zq_pr_mem.mpr ⟨_, hv, rfl⟩)
      exact lv_iinc hx hb (zq_dl hd hn rfl) hl.1 hk (by rw [zq_icof]) (hlt hs) rfl (fun ls' h' => kk ls' (zq_lr_s1 hl hs h') rfl)
    next => cases hg
  · cases hg
theorem zq_g3_ok (cx : zq_cx dC dI cA sz ad sc p s m args meth c cc nL o ini) (hd : decode cc pc = .ok (ins, len)) (hn : zq_lnk ins len = true) (hg : zq_g3 ins pc lv st h = some c')
    (kk : c'.2.1 = lv → c'.2.2.2 = h → W p l e R s m args below meth c H locs cells slots Q (F0 m c'.1 ls (c'.2.2.1.map (zq_tr sz ad)))) : W p l e R s m args below meth c H locs cells slots Q (F0 m pc ls (st.map (zq_tr sz ad))) := by
  obtain ⟨hx, hb, -⟩ := cx
  unfold zq_g3 at hg
  split at hg <;> (try cases hg) <;> split at hg <;> (try cases hg)
  · exact lv_iadd hx hb (zq_dl hd hn rfl) (kk rfl rfl)
  · exact lv_isub hx hb (zq_dl hd hn rfl) (kk rfl rfl)
  · exact lv_imul hx hb (zq_dl hd hn rfl) (kk rfl rfl)
  · exact lv_iand hx hb (zq_dl hd hn rfl) (kk rfl rfl)
  · exact lv_ior hx hb (zq_dl hd hn rfl) (kk rfl rfl)
  · exact lv_ixor hx hb (zq_dl hd hn rfl) (kk rfl rfl)
  · split at hg
    next => cases hg
    next hne => cases hg; exact lv_idiv hx hb (zq_dl hd hn rfl) hne (kk rfl rfl)
  · split at hg
    next => cases hg
    next hne => cases hg; exact lv_irem hx hb (zq_dl hd hn rfl) hne (kk rfl rfl)
  · exact lv_ineg hx hb (zq_dl hd hn rfl) (kk rfl rfl)
  · exact lv_ishl hx hb (zq_dl hd hn rfl) (kk rfl rfl)
  · exact lv_ishr hx hb (zq_dl hd hn rfl) (kk rfl rfl)
theorem zq_g4_ok (cx : zq_cx dC dI cA sz ad sc p s m args meth c cc nL o ini) (hd : decode cc pc = .ok (ins, len)) (hn : zq_lnk ins len = true) (hg : zq_g4 ins pc lv st h = some c')
    (kk : c'.2.1 = lv → c'.2.2.2 = h → W p l e R s m args below meth c H locs cells slots Q (F0 m c'.1 ls (c'.2.2.1.map (zq_tr sz ad)))) : W p l e R s m args below meth c H locs cells slots Q (F0 m pc ls (st.map (zq_tr sz ad))) := by
  obtain ⟨hx, hb, -⟩ := cx
  unfold zq_g4 at hg
  split at hg <;> (try cases hg) <;> split at hg <;> (try cases hg)
  · exact lv_ladd hx hb (zq_dl hd hn rfl) (kk rfl rfl)
  · exact lv_lsub hx hb (zq_dl hd hn rfl) (kk rfl rfl)
  · exact lv_lmul hx hb (zq_dl hd hn rfl) (kk rfl rfl)
  · exact lv_land hx hb (zq_dl hd hn rfl) (kk rfl rfl)
  · exact lv_lor hx hb (zq_dl hd hn rfl) (kk rfl rfl)
  · split at hg
    next => cases hg
    next hne => cases hg; exact lv_ldiv hx hb (zq_dl hd hn rfl) hne (kk rfl rfl)
  · split at hg
    next => cases hg
    next hne => cases hg; exact lv_lrem hx hb (zq_dl hd hn rfl) hne (kk rfl rfl)
  · exact lv_lshl hx hb (zq_dl hd hn rfl) rfl (kk rfl rfl)
  · exact lv_lshr hx hb (zq_dl hd hn rfl) rfl (kk rfl rfl)
  · exact W.lcmp hx hb (zq_dl hd hn rfl) (kk rfl rfl)
end ZG
end
section
/-! further steps: branches, fields, arrays, what is made -/
theorem zq_cl_get {ci : Nat} (h : ci < 11) : zq_cl[ci]? = some (zq_R ci, zq_Tf ci, zq_N ci) := by
  unfold zq_cl
  rw [List.getElem?_map, List.getElem?_range h]
  rfl
theorem zq_adr_inj {dC : Nat → ClassId} {dI : Nat → Nat → Nat} {cA : Nat → ClassId} {sz : Nat} {ad : Nat → Nat} {sc : zX} {U : State} {H : Heap} (h : zq_env dC dI cA sz ad sc U H) {i j : Nat} (hi : i < 38 ∨ 64 ≤ i) (hj : j < 38 ∨ 64 ≤ j) (he : zq_adr sz ad i = zq_adr sz ad j) : i = j := by
  obtain ⟨-, -, -, -, -, -, -, -, -, -, -, h15, h16, -⟩ := h
  unfold zq_adr at he
  rcases hi with hi | hi <;> rcases hj with hj | hj
  · rw [if_pos (by omega), if_pos (by omega)] at he
    exact h15 i j hi hj he
  · rw [if_pos (by omega), if_neg (by omega)] at he
    have := h16 i hi
    omega
  · rw [if_neg (by omega), if_pos (by omega)] at he
    have := h16 j hj
    omega
  · rw [if_neg (by omega), if_neg (by omega)] at he
    omega
def zq_ro (v : Value) : Option Nat := match v with
  | .ref i => some i
  | _ => none
theorem zq_rok_rf {sz : Nat} {ad : Nat → Nat} {v : Value} (h : zq_rok v = true) : zq_tr sz ad v = va_rf ((zq_ro v).map (zq_adr sz ad)) ∧ v = va_rf (zq_ro v) ∧ ∀ i, zq_ro v = some i → i < 38 ∨ 64 ≤ i := by
  cases v with
  | null => exact ⟨rfl, rfl, fun i h => by cases h⟩
  | ref i => exact ⟨rfl, rfl, fun j hj => by cases hj; exact of_decide_eq_true h⟩
  | int x => cases h
  | long x => cases h
  | float x => cases h
  | double x => cases h
  | retAddr x => cases h
theorem zq_rok_eq {dC : Nat → ClassId} {dI : Nat → Nat → Nat} {cA : Nat → ClassId} {sz : Nat} {ad : Nat → Nat} {sc : zX} {U : State} {H : Heap} (henv : zq_env dC dI cA sz ad sc U H) {x y : Value} (hx : zq_rok x = true) (hy : zq_rok y = true) : ((zq_ro x).map (zq_adr sz ad) = (zq_ro y).map (zq_adr sz ad)) ↔ x = y := by
  obtain ⟨-, h1, h2⟩ := zq_rok_rf (sz := sz) (ad := ad) hx
  obtain ⟨-, h3, h4⟩ := zq_rok_rf (sz := sz) (ad := ad) hy
  constructor
  · intro h
    rw [h1, h3]
    cases ha : zq_ro x with
    | none =>
      cases hb : zq_ro y with
      | none => rfl
      | some j => rw [ha, hb] at h; cases h
    | some i =>
      cases hb : zq_ro y with
      | none => rw [ha, hb] at h; cases h
      | some j =>
        rw [ha, hb] at h
        rw [zq_adr_inj henv (h2 i ha) (h4 j hb) (Option.some.inj h)]
  · intro h
    rw [h]
section ZG
variable {dC : Nat → ClassId} {dI : Nat → Nat → Nat} {cA : Nat → ClassId} {sz : Nat} {ad : Nat → Nat} {sc : zX}
variable {p : Program} {l : Launch} {e : Env} {R : Room} {s : State} {m : MethodId} {args : Array Value} {below : List Frame} {meth : Method} {c : Code} {H : Heap} {locs : List Loc} {cells slots : Nat} {Q : State → Prop}
variable {cc : ByteArray} {ls : Array Slot} {nL pc o len : Nat} {ini : Bool} {ins : Instr} {lv : List (Option Value)} {st : List Value} {h : zH} {c' : zC}
theorem zq_g5_ok (cx : zq_cx dC dI cA sz ad sc p s m args meth c cc nL o ini) (hd : decode cc pc = .ok (ins, len)) (hn : zq_lnk ins len = true) (hg : zq_g5 ins pc lv st h = some c')
    (kk : c'.2.1 = lv → c'.2.2.2 = h → W p l e R s m args below meth c H locs cells slots Q (F0 m c'.1 ls (c'.2.2.1.map (zq_tr sz ad)))) : W p l e R s m args below meth c H locs cells slots Q (F0 m pc ls (st.map (zq_tr sz ad))) := by
  obtain ⟨hx, hb, hml, hown, hts, henv, hin, ho⟩ := cx
  unfold zq_g5 at hg
  split at hg
  · split at hg
    · cases hg; exact lv_i2l hx hb (zq_dl hd hn rfl) rfl (kk rfl rfl)
    · cases hg
  · split at hg
    · cases hg; exact lv_l2i hx hb (zq_dl hd hn rfl) rfl (kk rfl rfl)
    · cases hg
  · split at hg
    · cases hg; exact lv_i2c hx hb (zq_dl hd hn rfl) rfl (kk rfl rfl)
    · cases hg
  · split at hg
    · cases hg; exact lv_iushr hx hb (zq_dl hd hn rfl) rfl (kk rfl rfl)
    · cases hg
  · split at hg
    · cases hg; exact lv_dup hx hb (zq_dl hd hn rfl) rfl (kk rfl rfl)
    · cases hg; exact lv_dup hx hb (zq_dl hd hn rfl) rfl (kk rfl rfl)
    · cases hg
  · split at hg
    · cases hg; exact lv_dup2_11 hx hb (zq_dl hd hn rfl) rfl rfl (kk rfl rfl)
    · cases hg
  · obtain ⟨t, ht, rfl⟩ := Option.map_eq_some_iff.mp hg
    exact lv_goto hx hb (zq_dl hd hn rfl) (zq_tgt ht) (kk rfl rfl)
  · split at hg
    · obtain ⟨t, ht, rfl⟩ := Option.map_eq_some_iff.mp hg
      exact lv_ifnullN hx hb (zq_dl hd hn rfl) (zq_tgt ht) (kk rfl rfl)
    · cases hg; exact lv_ifnull hx hb (zq_dl hd hn rfl) (kk rfl rfl)
    · cases hg
  · split at hg
    next y x r =>
      split at hg
      next hr =>
        obtain ⟨t, ht, rfl⟩ := Option.map_eq_some_iff.mp hg
        have k := kk rfl rfl
        show W p l e R s m args below meth c H locs cells slots Q (F0 m pc ls (zq_tr sz ad y :: zq_tr sz ad x :: r.map (zq_tr sz ad)))
        rw [(zq_rok_rf hr.1).1, (zq_rok_rf hr.2).1]
        refine lv_acmp_eq hx hb (zq_dl hd hn rfl) (zq_tgt ht) (fun he => ?_) (fun he => ?_)
        · have hxy := (zq_rok_eq henv hr.1 hr.2).mp he
          dsimp only at k
          rw [if_pos hxy] at k
          exact k
        · have hxy : ¬ x = y := fun q => he ((zq_rok_eq henv hr.1 hr.2).mpr q)
          dsimp only at k
          rw [if_neg hxy] at k
          exact k
      next => cases hg
    next => cases hg
  · split at hg
    next y x r =>
      split at hg
      next hr =>
        obtain ⟨t, ht, rfl⟩ := Option.map_eq_some_iff.mp hg
        have k := kk rfl rfl
        show W p l e R s m args below meth c H locs cells slots Q (F0 m pc ls (zq_tr sz ad y :: zq_tr sz ad x :: r.map (zq_tr sz ad)))
        rw [(zq_rok_rf hr.1).1, (zq_rok_rf hr.2).1]
        refine lv_acmp_ne hx hb (zq_dl hd hn rfl) (zq_tgt ht) (fun he => ?_) (fun he => ?_)
        · have hxy : ¬ x = y := fun q => he ((zq_rok_eq henv hr.1 hr.2).mpr q)
          dsimp only at k
          rw [if_neg hxy] at k
          exact k
        · have hxy := (zq_rok_eq henv hr.1 hr.2).mp he
          dsimp only at k
          rw [if_pos hxy] at k
          exact k
      next => cases hg
    next => cases hg
  · cases hg
theorem zq_ifp {α : Sort _} {P : α → Prop} {c : Prop} [Decidable c] {a b : α} (h : P (if c then a else b)) : (c → P a) ∧ (¬ c → P b) := by
  by_cases hc : c
  · rw [if_pos hc] at h; exact ⟨fun _ => h, fun n => absurd hc n⟩
  · rw [if_neg hc] at h; exact ⟨fun y => absurd y hc, fun _ => h⟩
theorem zq_g6_ok (cx : zq_cx dC dI cA sz ad sc p s m args meth c cc nL o ini) (hd : decode cc pc = .ok (ins, len)) (hn : zq_lnk ins len = true) (hg : zq_g6 ins pc lv st h = some c')
    (kk : c'.2.1 = lv → c'.2.2.2 = h → W p l e R s m args below meth c H locs cells slots Q (F0 m c'.1 ls (c'.2.2.1.map (zq_tr sz ad)))) : W p l e R s m args below meth c H locs cells slots Q (F0 m pc ls (st.map (zq_tr sz ad))) := by
  obtain ⟨hx, hb, hml, hown, hts, henv, hin, ho⟩ := cx
  unfold zq_g6 at hg
  split at hg
  · split at hg
    · obtain ⟨t, ht, rfl⟩ := Option.map_eq_some_iff.mp hg
      have k := zq_ifp (P := fun q => W p l e R s m args below meth c H locs cells slots Q (F0 m q ls _)) (kk rfl rfl)
      exact lv_if_eq hx hb (zq_dl hd hn rfl) (zq_tgt ht) k.1 k.2
    · cases hg
  · split at hg
    · obtain ⟨t, ht, rfl⟩ := Option.map_eq_some_iff.mp hg
      have k := zq_ifp (P := fun q => W p l e R s m args below meth c H locs cells slots Q (F0 m q ls _)) (kk rfl rfl)
      exact lv_if_ne hx hb (zq_dl hd hn rfl) (zq_tgt ht) k.2 k.1
    · cases hg
  · split at hg
    · obtain ⟨t, ht, rfl⟩ := Option.map_eq_some_iff.mp hg
      have k := zq_ifp (P := fun q => W p l e R s m args below meth c H locs cells slots Q (F0 m q ls _)) (kk rfl rfl)
      exact lv_if_lt hx hb (zq_dl hd hn rfl) (zq_tgt ht) k.1 k.2
    · cases hg
  · split at hg
    · obtain ⟨t, ht, rfl⟩ := Option.map_eq_some_iff.mp hg
      have k := zq_ifp (P := fun q => W p l e R s m args below meth c H locs cells slots Q (F0 m q ls _)) (kk rfl rfl)
      exact lv_if_ge hx hb (zq_dl hd hn rfl) (zq_tgt ht) k.1 k.2
    · cases hg
  · split at hg
    · obtain ⟨t, ht, rfl⟩ := Option.map_eq_some_iff.mp hg
      have k := zq_ifp (P := fun q => W p l e R s m args below meth c H locs cells slots Q (F0 m q ls _)) (kk rfl rfl)
      exact lv_if_gt hx hb (zq_dl hd hn rfl) (zq_tgt ht) k.1 k.2
    · cases hg
  · split at hg
    · obtain ⟨t, ht, rfl⟩ := Option.map_eq_some_iff.mp hg
      have k := zq_ifp (P := fun q => W p l e R s m args below meth c H locs cells slots Q (F0 m q ls _)) (kk rfl rfl)
      exact lv_if_le hx hb (zq_dl hd hn rfl) (zq_tgt ht) k.1 k.2
    · cases hg
  · split at hg
    · obtain ⟨t, ht, rfl⟩ := Option.map_eq_some_iff.mp hg
      have k := zq_ifp (P := fun q => W p l e R s m args below meth c H locs cells slots Q (F0 m q ls _)) (kk rfl rfl)
      exact lv_icmp_eq hx hb (zq_dl hd hn rfl) (zq_tgt ht) k.1 k.2
    · cases hg
  · split at hg
    · obtain ⟨t, ht, rfl⟩ := Option.map_eq_some_iff.mp hg
      have k := zq_ifp (P := fun q => W p l e R s m args below meth c H locs cells slots Q (F0 m q ls _)) (kk rfl rfl)
      exact lv_icmp_ne hx hb (zq_dl hd hn rfl) (zq_tgt ht) k.2 k.1
    · cases hg
  · split at hg
    · obtain ⟨t, ht, rfl⟩ := Option.map_eq_some_iff.mp hg
      have k := zq_ifp (P := fun q => W p l e R s m args below meth c H locs cells slots Q (F0 m q ls _)) (kk rfl rfl)
      exact lv_icmp_lt hx hb (zq_dl hd hn rfl) (zq_tgt ht) k.1 k.2
    · cases hg
  · split at hg
    · obtain ⟨t, ht, rfl⟩ := Option.map_eq_some_iff.mp hg
      have k := zq_ifp (P := fun q => W p l e R s m args below meth c H locs cells slots Q (F0 m q ls _)) (kk rfl rfl)
      exact lv_icmp_ge hx hb (zq_dl hd hn rfl) (zq_tgt ht) k.1 k.2
    · cases hg
  · split at hg
    · obtain ⟨t, ht, rfl⟩ := Option.map_eq_some_iff.mp hg
      have k := zq_ifp (P := fun q => W p l e R s m args below meth c H locs cells slots Q (F0 m q ls _)) (kk rfl rfl)
      exact lv_icmp_gt hx hb (zq_dl hd hn rfl) (zq_tgt ht) k.1 k.2
    · cases hg
  · split at hg
    · obtain ⟨t, ht, rfl⟩ := Option.map_eq_some_iff.mp hg
      have k := zq_ifp (P := fun q => W p l e R s m args below meth c H locs cells slots Q (F0 m q ls _)) (kk rfl rfl)
      exact lv_icmp_le hx hb (zq_dl hd hn rfl) (zq_tgt ht) k.1 k.2
    · cases hg
  · split at hg
    · split at hg
      next hout =>
        obtain ⟨t, ht, rfl⟩ := Option.map_eq_some_iff.mp hg
        exact lv_tableOut hx hb hd hout (zq_tgt ht) (kk rfl rfl)
      next hout =>
        split at hg
        next off hoff =>
          obtain ⟨t, ht, rfl⟩ := Option.map_eq_some_iff.mp hg
          exact lv_tableIn hx hb hd (fun q => hout (Or.inl q)) (fun q => hout (Or.inr q)) hoff (zq_tgt ht) (kk rfl rfl)
        next => cases hg
    · cases hg
  · cases hg
theorem zq_fs_get {ci k : Nat} (hk : k < zq_N ci) (f : Nat → Value) : ((List.range (zq_N ci)).map f)[k]? = some (f k) := by
  rw [List.getElem?_map, List.getElem?_range hk]
  rfl
theorem zq_fs_set {ci k : Nat} (hk : k < zq_N ci) (f f' : Nat → Value) (h : ∀ i, i ≠ k → f' i = f i) : (List.range (zq_N ci)).map f' = ((List.range (zq_N ci)).map f).set k (f' k) := by
  apply List.ext_getElem?
  intro i
  rw [List.getElem?_set]
  by_cases hik : k = i
  · subst hik
    rw [if_pos rfl, if_pos (by simpa using hk), zq_fs_get hk]
  · rw [if_neg hik]
    by_cases hi : i < zq_N ci
    · rw [zq_fs_get hi, zq_fs_get hi, h i (fun e => hik e.symm)]
    · rw [List.getElem?_eq_none (by simpa using hi), List.getElem?_eq_none (by simpa using hi)]
end ZG
end
section
/-! fields, arrays, what is made, the three methods of one step -/
theorem zq_fit_ok {ty : FieldType} {x : Int32} (h : zq_fit ty x = true) : narrow ty (.int x) = .int x ∧ fits ty (.int x) = true := by
  unfold zq_fit at h
  split at h
  · exact ⟨rfl, rfl⟩
  · rcases of_decide_eq_true h with rfl | rfl
    · exact ⟨rfl, rfl⟩
    · exact ⟨rfl, rfl⟩
  · have h1 := of_decide_eq_true h
    have h2 : fits .char (.int x) = true := by
      show (decide (0 ≤ x) && decide (x ≤ 65535)) = true
      rw [decide_eq_true h1.1, decide_eq_true h1.2]
      rfl
    refine ⟨?_, h2⟩
    have h3 : 0 ≤ x.toInt := by
      have := Int32.le_iff_toInt_le.mp h1.1
      simpa using this
    have h4 : x.toInt ≤ 65535 := by
      have := Int32.le_iff_toInt_le.mp h1.2
      simpa using this
    obtain ⟨n, hn, rfl⟩ : ∃ n : Nat, n < 65536 ∧ x = nI n := by
      obtain ⟨j, hj, rfl⟩ := nI_of (x := x) (fun q => by
        have := Int32.lt_iff_toInt_lt.mp q
        simp at this
        omega)
      refine ⟨j, ?_, rfl⟩
      rw [nI_toInt hj] at h4
      omega
    exact (pk_charN hn).1
  · cases h
section ZG
variable {dC : Nat → ClassId} {dI : Nat → Nat → Nat} {cA : Nat → ClassId} {sz : Nat} {ad : Nat → Nat} {sc : zX}
variable {p : Program} {l : Launch} {e : Env} {R : Room} {s : State} {m : MethodId} {args : Array Value} {below : List Frame} {meth : Method} {c : Code} {H : Heap} {locs : List Loc} {cells slots : Nat} {Q : State → Prop}
variable {cc : ByteArray} {ls : Array Slot} {nL pc o len : Nat} {ini : Bool} {ins : Instr} {lv : List (Option Value)} {st : List Value} {h : zH} {c' : zC}
/-- a write of a field: the store changes at one place alone -/
theorem zq_put_ok (cx : zq_cx dC dI cA sz ad sc p s m args meth c cc nL o ini) {i ci k a pos : Nat} (hd : decode cc pc = .ok (.putfield i, 3)) (he : (i, ci, k, pos) ∈ zq_fps.getD o []) (hci : ci < 11) (hfin : (zq_Tf ci k).2.2.2 = false ∨ (ini = true ∧ ci = o)) (hkd : zq_kd h a = some (0, ci)) {v : Value} {s' : zS} {r : List Value}
    (hrow : ∀ i, i ≠ a → s'.1 i = h.2.1 i ∧ s'.2.1 i = h.2.2.1 i ∧ s'.2.2 i = h.2.2.2 i) (hoth : ∀ t i, i ≠ k → zq_fv t s' a i = zq_fv t h.2 a i) (hnew : zq_fv (zq_tag (zq_ty ci k)) s' a k = v) (hn : narrow (zq_ty ci k) (zq_tr sz ad v) = zq_tr sz ad v) (hf : fits (zq_ty ci k) (zq_tr sz ad v) = true)
    (hP : va_P (dC, dI) zq_cl (zq_ws cA sz ad h) H) (hS : va_S (fun q => sz ≤ q) s.heap H locs)
    (kk : ∀ H' locs', va_P (dC, dI) zq_cl (zq_ws cA sz ad (h.1, s')) H' → va_S (fun q => sz ≤ q) s.heap H' locs' → W p l e R s m args below meth c H' locs' cells slots Q (F0 m (pc + 3) ls (r.map (zq_tr sz ad)))) : W p l e R s m args below meth c H locs cells slots Q (F0 m pc ls (zq_tr sz ad v :: .ref (zq_adr sz ad a) :: r.map (zq_tr sz ad))) := by
  obtain ⟨hx, hb, hml, hown, hts, henv, hin, ho⟩ := cx
  have hK := henv.1
  have hpk := zq_fpk o ho _ he
  dsimp only at hpk
  rw [if_pos hci] at hpk
  simp only [Bool.and_eq_true, decide_eq_true_eq] at hpk
  obtain ⟨⟨hk, hlink⟩, hdecl⟩ := hpk
  have hlink' := hts _ (zq_in hlink)
  obtain ⟨j, rfl, hj⟩ := zq_kd_at hkd
  rw [zq_adr_new]
  have hget : (zq_ws cA sz ad h)[j]? = some (sz + j, .inr (ci, (List.range (zq_N ci)).map (fun k => zq_tr sz ad (zq_fv (zq_tag (zq_ty ci k)) h.2 (64 + j) k)))) := zq_ws_get hj
  have hset : zq_ws cA sz ad (h.1, s') = (zq_ws cA sz ad h).set j (sz + j, .inr (ci, ((List.range (zq_N ci)).map (fun k => zq_tr sz ad (zq_fv (zq_tag (zq_ty ci k)) h.2 (64 + j) k))).set k (zq_tr sz ad v))) := by
    rw [zq_ws_set hj hrow]
    show (zq_ws cA sz ad h).set j (sz + j, .inr (ci, (List.range (zq_N ci)).map (fun k => zq_tr sz ad (zq_fv (zq_tag (zq_ty ci k)) s' (64 + j) k)))) = _
    rw [zq_fs_set hk (fun k => zq_tr sz ad (zq_fv (zq_tag (zq_ty ci k)) h.2 (64 + j) k)) (fun k => zq_tr sz ad (zq_fv (zq_tag (zq_ty ci k)) s' (64 + j) k)) (fun i hi => by rw [hoth _ i hi])]
    rw [hnew]
  have hsame : ∀ x, s.fieldFound? (zq_Tf ci k).1 (zq_Tf ci k).2.1 (zq_Tf ci k).2.2.1 = some x → s.fieldFound? (zq_R ci) (zq_Tf ci k).2.1 (zq_Tf ci k).2.2.1 = some x := by
    rw [hdecl]
    exact fun x h => h
  by_cases hf0 : (zq_Tf ci k).2.2.2 = false
  · refine va_put (D := (dC, dI)) hx hb hts (zq_lay hci) (zq_ty ci) (zq_tyok ci hci) (zq_nm ci hci) hown hK hP (zq_D cA sz ad h) hS j hget (zq_cl_get hci) k hk hlink' hsame hf0 (zq_tyok ci hci k hk) hn hf (by simpa using hk) hd (fun H1 locs1 hP1 _ hS1 => ?_)
    exact kk H1 locs1 (by rw [hset]; exact hP1) hS1
  · have hf1 : (zq_Tf ci k).2.2.2 = true := by
      cases hq : (zq_Tf ci k).2.2.2
      · exact absurd hq hf0
      · rfl
    rcases hfin with hq | ⟨hi, hco⟩
    · exact absurd hq hf0
    · refine va_putF (D := (dC, dI)) hx hb hts (zq_lay hci) (zq_ty ci) (zq_tyok ci hci) (zq_nm ci hci) hown hK hP (zq_D cA sz ad h) hS j hget (zq_cl_get hci) k hk hlink' hsame hf1 (hin hi) (by rw [hdecl, hco]) (zq_tyok ci hci k hk) hn hf (by simpa using hk) hd (fun H1 locs1 hP1 _ hS1 => ?_)
      exact kk H1 locs1 (by rw [hset]; exact hP1) hS1
theorem zq_rows_I (t : zS) (a k : Nat) (x : Int32) : (∀ i, i ≠ a → (zq_sI t a k x).1 i = t.1 i ∧ (zq_sI t a k x).2.1 i = t.2.1 i ∧ (zq_sI t a k x).2.2 i = t.2.2 i) ∧ (∀ y i, i ≠ k → zq_fv y (zq_sI t a k x) a i = zq_fv y t a i) ∧ (zq_sI t a k x).1 a k = x := by
  refine ⟨fun i hi => ⟨funext fun b => if_neg hi, rfl, rfl⟩, fun y i hi => ?_, by simp [zq_sI]⟩
  unfold zq_fv
  split
  · simp [zq_sI, hi]
  · rfl
  · rfl
theorem zq_rows_L (t : zS) (a k : Nat) (x : Int64) : (∀ i, i ≠ a → (zq_sL t a k x).1 i = t.1 i ∧ (zq_sL t a k x).2.1 i = t.2.1 i ∧ (zq_sL t a k x).2.2 i = t.2.2 i) ∧ (∀ y i, i ≠ k → zq_fv y (zq_sL t a k x) a i = zq_fv y t a i) ∧ (zq_sL t a k x).2.1 a k = x := by
  refine ⟨fun i hi => ⟨rfl, funext fun b => if_neg hi, rfl⟩, fun y i hi => ?_, by simp [zq_sL]⟩
  unfold zq_fv
  split
  · rfl
  · simp [zq_sL, hi]
  · rfl
theorem zq_rows_R (t : zS) (a k : Nat) (x : Option Nat) : (∀ i, i ≠ a → (zq_sR t a k x).1 i = t.1 i ∧ (zq_sR t a k x).2.1 i = t.2.1 i ∧ (zq_sR t a k x).2.2 i = t.2.2 i) ∧ (∀ y i, i ≠ k → zq_fv y (zq_sR t a k x) a i = zq_fv y t a i) ∧ (zq_sR t a k x).2.2 a k = x := by
  refine ⟨fun i hi => ⟨rfl, rfl, funext fun b => if_neg hi⟩, fun y i hi => ?_, by simp [zq_sR]⟩
  unfold zq_fv
  split
  · rfl
  · rfl
  · simp [zq_sR, hi]
theorem zq_ref_ty {ci k : Nat} (hci : ci < 11) (hk : k < zq_N ci) (h : zq_tag (zq_ty ci k) = 2) : ∀ v : Value, v = .null ∨ (∃ a, v = .ref a) → narrow (zq_ty ci k) v = v ∧ fits (zq_ty ci k) v = true := by
  have key : ∀ ci, ci < 11 → ∀ k, k < zq_N ci → zq_tag (zq_ty ci k) = 2 → (match zq_ty ci k with | .object _ => true | .array _ => true | _ => false) = true := by decide +kernel
  have h1 := key ci hci k hk h
  intro v hv
  cases hty : zq_ty ci k <;> rw [hty] at h1 <;> first | (cases h1; done) | (rcases hv with rfl | ⟨a, rfl⟩ <;> exact ⟨rfl, rfl⟩)
theorem zq_g7_ok (cx : zq_cx dC dI cA sz ad sc p s m args meth c cc nL o ini) (hd : decode cc pc = .ok (ins, len)) (hn : zq_lnk ins len = true) (hg : zq_g7 o ini ins pc lv st h = some c') (hP : va_P (dC, dI) zq_cl (zq_ws cA sz ad h) H) (hS : va_S (fun q => sz ≤ q) s.heap H locs)
    (kk : ∀ H' locs', c'.2.1 = lv → c'.2.2.2.1 = h.1 → va_P (dC, dI) zq_cl (zq_ws cA sz ad c'.2.2.2) H' → va_S (fun q => sz ≤ q) s.heap H' locs' → W p l e R s m args below meth c H' locs' cells slots Q (F0 m c'.1 ls (c'.2.2.1.map (zq_tr sz ad)))) : W p l e R s m args below meth c H locs cells slots Q (F0 m pc ls (st.map (zq_tr sz ad))) := by
  have cx' := cx
  obtain ⟨hx, hb, hml, hown, hts, henv, hin, ho⟩ := cx
  obtain ⟨hK, hNm, hNf, -, hZ, hZw, hTw, hE1, hE2, hE3, -⟩ := id henv
  unfold zq_g7 at hg
  split at hg
  · split at hg
    next e1 he =>
      obtain ⟨ci, k, pos⟩ := e1
      have hmem := zq_lk he
      split at hg
      next a r =>
        dsimp only at hg
        split at hg
        next hci =>
          obtain ⟨v, hv, rfl⟩ := Option.map_eq_some_iff.mp hg
          unfold zq_gf at hv
          split at hv
          next hkd =>
            cases hv
            have hpk := zq_fpk o ho _ hmem
            dsimp only at hpk
            rw [if_pos hci] at hpk
            simp only [Bool.and_eq_true, decide_eq_true_eq] at hpk
            obtain ⟨⟨hk, hlink⟩, hdecl⟩ := hpk
            obtain ⟨j, rfl, hj⟩ := zq_kd_at hkd
            show W p l e R s m args below meth c H locs cells slots Q (F0 m pc ls (.ref (zq_adr sz ad (64 + j)) :: r.map (zq_tr sz ad)))
            rw [zq_adr_new]
            have hget : (zq_ws cA sz ad h)[j]? = some (sz + j, .inr (ci, (List.range (zq_N ci)).map (fun k => zq_tr sz ad (zq_fv (zq_tag (zq_ty ci k)) h.2 (64 + j) k)))) := zq_ws_get hj
            refine va_get (D := (dC, dI)) hx hb hts (zq_lay hci) hown hK hP j hget (zq_cl_get hci) k hk (hts _ (zq_in hlink)) ?_ (zq_fs_get hk _) (zq_dl hd hn rfl) (kk H locs rfl rfl hP hS)
            rw [hdecl]
            exact fun x h => h
          next => cases hv
        next hci =>
          split at hg
          next h20 =>
            obtain ⟨rfl, ha⟩ := h20
            have hpk := zq_fpk o ho _ hmem
            dsimp only at hpk
            rw [if_neg hci, if_pos rfl] at hpk
            have hadr : zq_adr sz ad a = ad a := if_pos (Nat.lt_trans ha (by decide))
            show W p l e R s m args below meth c H locs cells slots Q (F0 m pc ls (.ref (zq_adr sz ad a) :: r.map (zq_tr sz ad)))
            rw [hadr]
            split at hg
            · cases hg
              exact va_getX hx hb hE1 ha hS hown (hts _ (zq_in hpk)) (fun x h => h) (zq_dl hd hn rfl) (kk H locs rfl rfl hP hS)
            · cases hg
              exact va_getX hx hb hE2 ha hS hown (hts _ (zq_in hpk)) (fun x h => h) (zq_dl hd hn rfl) (kk H locs rfl rfl hP hS)
            · cases hg
              exact va_getX hx hb hE3 ha hS hown (hts _ (zq_in hpk)) (fun x h => h) (zq_dl hd hn rfl) (kk H locs rfl rfl hP hS)
            · cases hg
          next => cases hg
      next => cases hg
    next => cases hg
  · split at hg
    next e1 he =>
      obtain ⟨ci, k, pos⟩ := e1
      have hmem := zq_lk he
      split at hg
      next v a r =>
        dsimp only at hg
        split at hg
        next hc1 =>
          obtain ⟨hci, hfin⟩ := hc1
          obtain ⟨h', hv, rfl⟩ := Option.map_eq_some_iff.mp hg
          unfold zq_pf at hv
          have hpk := zq_fpk o ho _ hmem
          dsimp only at hpk
          rw [if_pos hci] at hpk
          simp only [Bool.and_eq_true, decide_eq_true_eq] at hpk
          obtain ⟨⟨hk, -⟩, -⟩ := hpk
          split at hv
          next hkd =>
            split at hv
            next x ht =>
              split at hv
              next hfit =>
                cases hv
                obtain ⟨r1, r2, r3⟩ := zq_rows_I h.2 a k x
                exact zq_put_ok cx' (zq_dl hd hn rfl) hmem hci hfin hkd (v := .int x) r1 r2 (by rw [ht]; show Value.int _ = _; rw [r3]) (zq_fit_ok hfit).1 (zq_fit_ok hfit).2 hP hS (fun H' locs' a1 a2 => kk H' locs' rfl rfl a1 a2)
              next => cases hv
            next x ht =>
              cases hv
              obtain ⟨r1, r2, r3⟩ := zq_rows_L h.2 a k x
              have hty : zq_ty ci k = .long := by
                cases hq : zq_ty ci k <;> rw [hq] at ht <;> first | rfl | cases ht
              exact zq_put_ok cx' (zq_dl hd hn rfl) hmem hci hfin hkd (v := .long x) r1 r2 (by rw [ht]; show Value.long _ = _; rw [r3]) (by rw [hty]; rfl) (by rw [hty]; rfl) hP hS (fun H' locs' a1 a2 => kk H' locs' rfl rfl a1 a2)
            next x ht =>
              cases hv
              obtain ⟨r1, r2, r3⟩ := zq_rows_R h.2 a k (some x)
              have hty := zq_ref_ty hci hk ht (zq_tr sz ad (.ref x)) (Or.inr ⟨_, rfl⟩)
              exact zq_put_ok cx' (zq_dl hd hn rfl) hmem hci hfin hkd (v := .ref x) r1 r2 (by rw [ht]; show va_rf _ = _; rw [r3]; rfl) hty.1 hty.2 hP hS (fun H' locs' a1 a2 => kk H' locs' rfl rfl a1 a2)
            next ht =>
              cases hv
              obtain ⟨r1, r2, r3⟩ := zq_rows_R h.2 a k none
              have hty := zq_ref_ty hci hk ht (zq_tr sz ad .null) (Or.inl rfl)
              exact zq_put_ok cx' (zq_dl hd hn rfl) hmem hci hfin hkd (v := .null) r1 r2 (by rw [ht]; show va_rf _ = _; rw [r3]; rfl) hty.1 hty.2 hP hS (fun H' locs' a1 a2 => kk H' locs' rfl rfl a1 a2)
            next => cases hv
          next => cases hv
        next => cases hg
      next => cases hg
    next => cases hg
  · split at hg
    next h60 =>
      obtain ⟨rfl, rfl⟩ := h60
      cases hg
      refine va_getsN hx hb hZw hS hown (va_Nw.use rfl hNf) (fun x h => h) (zq_dl hd hn rfl) ?_
      have k := kk H locs rfl rfl hP hS
      exact k
    next =>
      split at hg
      next e1 he =>
        obtain ⟨ci, k, pos⟩ := e1
        have hmem := zq_lk he
        dsimp only at hg
        split at hg
        next h21 =>
          cases hg
          have hpk := zq_fpk o ho _ hmem
          dsimp only at hpk
          rw [if_neg (by omega), if_neg (by omega), if_pos h21] at hpk
          simp only [Bool.and_eq_true, decide_eq_true_eq] at hpk
          have hadr : zq_adr sz ad k = ad k := if_pos (by omega)
          have kk' := kk H locs rfl rfl hP hS
          have kk2 : W p l e R s m args below meth c H locs cells slots Q (F0 m (pc + 3) ls (.ref (zq_adr sz ad k) :: st.map (zq_tr sz ad))) := kk'
          rw [hadr] at kk2
          exact va_gets hx hb (hZ k hpk.1) hS hown (hts _ (zq_in hpk.2)) (fun x h => h) (zq_dl hd hn rfl) kk2
        next => cases hg
      next => cases hg
  · cases hg
end ZG
end
section
/-! arrays, what is made, the methods that are one step -/
theorem zq_tysx (cA : Nat → ClassId) : (zq_tys cA)[0]? = some (cA 1, .int) ∧ (zq_tys cA)[1]? = some (cA 2, .long) ∧ (zq_tys cA)[2]? = some (cA 3, .char) ∧ (zq_tys cA)[3]? = some (cA 4, .boolean) ∧ (zq_tys cA)[4]? = some (cA 5, .object "RaffleArmy$State") ∧ (zq_tys cA)[5]? = some (cA 6, .object "RaffleArmy$Notes") := ⟨rfl, rfl, rfl, rfl, rfl, rfl⟩
section ZG
variable {dC : Nat → ClassId} {dI : Nat → Nat → Nat} {cA : Nat → ClassId} {sz : Nat} {ad : Nat → Nat} {sc : zX}
variable {p : Program} {l : Launch} {e : Env} {R : Room} {s : State} {m : MethodId} {args : Array Value} {below : List Frame} {meth : Method} {c : Code} {H : Heap} {locs : List Loc} {cells slots : Nat} {Q : State → Prop}
variable {cc : ByteArray} {ls : Array Slot} {nL pc o len : Nat} {ini : Bool} {ins : Instr} {lv : List (Option Value)} {st : List Value} {h : zH} {c' : zC}
/-- the picture behind a write into an array of ints -/
theorem zq_wsI {a j n : Nat} {t : Nat} (ht : t = 1 ∨ t = 3 ∨ t = 4) (hj : h.1[j]? = some (t, n)) (i : Nat) (x : Int32) : zq_ws cA sz ad (h.1, zq_sI h.2 (64 + j) i x) = (zq_ws cA sz ad h).set j (sz + j, .inl (cA t, n, .inl (upd (h.2.1 (64 + j)) i x))) := by
  obtain ⟨r1, -, -⟩ := zq_rows_I h.2 (64 + j) i x
  rw [zq_ws_set hj r1]
  have e1 : (zq_sI h.2 (64 + j) i x).1 (64 + j) = upd (h.2.1 (64 + j)) i x := by
    funext b
    simp [zq_sI, upd]
  rcases ht with rfl | rfl | rfl
  · show (zq_ws cA sz ad h).set j (sz + j, .inl (cA 1, n, .inl ((zq_sI h.2 (64 + j) i x).1 (64 + j)))) = _
    rw [e1]
  · show (zq_ws cA sz ad h).set j (sz + j, .inl (cA 3, n, .inl ((zq_sI h.2 (64 + j) i x).1 (64 + j)))) = _
    rw [e1]
  · show (zq_ws cA sz ad h).set j (sz + j, .inl (cA 4, n, .inl ((zq_sI h.2 (64 + j) i x).1 (64 + j)))) = _
    rw [e1]
theorem zq_wsL {j n : Nat} (hj : h.1[j]? = some (2, n)) (i : Nat) (x : Int64) : zq_ws cA sz ad (h.1, zq_sL h.2 (64 + j) i x) = (zq_ws cA sz ad h).set j (sz + j, .inl (cA 2, n, .inr (.inl (vp_updL (h.2.2.1 (64 + j)) i x)))) := by
  obtain ⟨r1, -, -⟩ := zq_rows_L h.2 (64 + j) i x
  rw [zq_ws_set hj r1]
  have e1 : (zq_sL h.2 (64 + j) i x).2.1 (64 + j) = vp_updL (h.2.2.1 (64 + j)) i x := by
    funext b
    simp [zq_sL, vp_updL]
  show (zq_ws cA sz ad h).set j (sz + j, .inl (cA 2, n, .inr (.inl ((zq_sL h.2 (64 + j) i x).2.1 (64 + j))))) = _
  rw [e1]
theorem zq_wsR {j n t : Nat} (ht : t = 5 ∨ t = 6) (hj : h.1[j]? = some (t, n)) (i x : Nat) : zq_ws cA sz ad (h.1, zq_sR h.2 (64 + j) i (some x)) = (zq_ws cA sz ad h).set j (sz + j, .inl (cA t, n, .inr (.inr (.inr (.inr (va_up (fun k => (h.2.2.2 (64 + j) k).map (zq_adr sz ad)) i (some (zq_adr sz ad x)))))))) := by
  obtain ⟨r1, -, -⟩ := zq_rows_R h.2 (64 + j) i (some x)
  rw [zq_ws_set hj r1]
  have e1 : (fun k => ((zq_sR h.2 (64 + j) i (some x)).2.2 (64 + j) k).map (zq_adr sz ad)) = va_up (fun k => (h.2.2.2 (64 + j) k).map (zq_adr sz ad)) i (some (zq_adr sz ad x)) := by
    funext b
    by_cases hb : b = i
    · simp [zq_sR, va_up, hb]
    · simp [zq_sR, va_up, hb]
  rcases ht with rfl | rfl
  · show (zq_ws cA sz ad h).set j (sz + j, .inl (cA 5, n, .inr (.inr (.inr (.inr (fun k => ((zq_sR h.2 (64 + j) i (some x)).2.2 (64 + j) k).map (zq_adr sz ad))))))) = _
    rw [e1]
  · show (zq_ws cA sz ad h).set j (sz + j, .inl (cA 6, n, .inr (.inr (.inr (.inr (fun k => ((zq_sR h.2 (64 + j) i (some x)).2.2 (64 + j) k).map (zq_adr sz ad))))))) = _
    rw [e1]
theorem zq_ref_eq (sz : Nat) (ad : Nat → Nat) (j : Nat) : zq_tr sz ad (.ref (64 + j)) = .ref (sz + j) := by
  show Value.ref (zq_adr sz ad (64 + j)) = _
  rw [zq_adr_new]
theorem zq_rf_tr (sz : Nat) (ad : Nat → Nat) (r : Option Nat) : zq_tr sz ad (va_rf r) = va_rf (r.map (zq_adr sz ad)) := by cases r <;> rfl
theorem zq_g8_ok (cx : zq_cx dC dI cA sz ad sc p s m args meth c cc nL o ini) (hd : decode cc pc = .ok (ins, len)) (hn : zq_lnk ins len = true) (hg : zq_g8 sc ins pc lv st h = some c') (hP : va_P (dC, dI) zq_cl (zq_ws cA sz ad h) H) (hS : va_S (fun q => sz ≤ q) s.heap H locs)
    (kk : ∀ H' locs', c'.2.1 = lv → c'.2.2.2.1 = h.1 → va_P (dC, dI) zq_cl (zq_ws cA sz ad c'.2.2.2) H' → va_S (fun q => sz ≤ q) s.heap H' locs' → W p l e R s m args below meth c H' locs' cells slots Q (F0 m c'.1 ls (c'.2.2.1.map (zq_tr sz ad)))) : W p l e R s m args below meth c H locs cells slots Q (F0 m pc ls (st.map (zq_tr sz ad))) := by
  obtain ⟨hx, hb, hml, hown, hts, henv, hin, ho⟩ := cx
  obtain ⟨hK, hNm, hNf, -, hZ, hZw, hTw, hE1, hE2, hE3, ⟨hX, hX1, hX2⟩, -⟩ := id henv
  obtain ⟨t1, t2, t3, t4, t5, t6⟩ := zq_tysx cA
  unfold zq_g8 at hg
  split at hg
  · split at hg
    next i a r =>
      obtain ⟨v, hv, rfl⟩ := Option.map_eq_some_iff.mp hg
      unfold zq_rdI at hv
      split at hv
      next h37 =>
        subst h37
        split at hv
        next => cases hv
        next hi =>
          cases hv
          exact va_sld hx hb hX hX1 (Nat.not_le.mpr hX2) hS hi (zq_dl hd hn rfl) (kk H locs rfl rfl hP hS)
      next =>
        split at hv
        next n hkd =>
          split at hv
          next => cases hv
          next hi =>
            cases hv
            obtain ⟨j, rfl, hj⟩ := zq_kd_at hkd
            show W p l e R s m args below meth c H locs cells slots Q (F0 m pc ls (.int i :: zq_tr sz ad (.ref (64 + j)) :: r.map (zq_tr sz ad)))
            rw [zq_ref_eq]
            exact va_iald hx hb hK hP j 0 (zq_ws_get hj) t1 hi (zq_dl hd hn rfl) (kk H locs rfl rfl hP hS)
        next => cases hv
    next => cases hg
  · split at hg
    next i a r =>
      obtain ⟨v, hv, rfl⟩ := Option.map_eq_some_iff.mp hg
      unfold zq_rdX at hv
      split at hv
      next t n hkd =>
        split at hv
        next ht =>
          subst ht
          split at hv
          next => cases hv
          next hi =>
            cases hv
            obtain ⟨j, rfl, hj⟩ := zq_kd_at hkd
            show W p l e R s m args below meth c H locs cells slots Q (F0 m pc ls (.int i :: zq_tr sz ad (.ref (64 + j)) :: r.map (zq_tr sz ad)))
            rw [zq_ref_eq]
            exact va_cald hx hb hK hP j 2 (zq_ws_get hj) t3 hi (zq_dl hd hn rfl) (kk H locs rfl rfl hP hS)
        next => cases hv
      next => cases hv
    next => cases hg
  · split at hg
    next i a r =>
      obtain ⟨v, hv, rfl⟩ := Option.map_eq_some_iff.mp hg
      unfold zq_rdX at hv
      split at hv
      next t n hkd =>
        split at hv
        next ht =>
          subst ht
          split at hv
          next => cases hv
          next hi =>
            cases hv
            obtain ⟨j, rfl, hj⟩ := zq_kd_at hkd
            show W p l e R s m args below meth c H locs cells slots Q (F0 m pc ls (.int i :: zq_tr sz ad (.ref (64 + j)) :: r.map (zq_tr sz ad)))
            rw [zq_ref_eq]
            exact va_zald hx hb hK hP j 3 (zq_ws_get hj) t4 hi (zq_dl hd hn rfl) (kk H locs rfl rfl hP hS)
        next => cases hv
      next => cases hv
    next => cases hg
  · split at hg
    next i a r =>
      obtain ⟨v, hv, rfl⟩ := Option.map_eq_some_iff.mp hg
      unfold zq_rdL at hv
      split at hv
      next n hkd =>
        split at hv
        next => cases hv
        next hi =>
          cases hv
          obtain ⟨j, rfl, hj⟩ := zq_kd_at hkd
          show W p l e R s m args below meth c H locs cells slots Q (F0 m pc ls (.int i :: zq_tr sz ad (.ref (64 + j)) :: r.map (zq_tr sz ad)))
          rw [zq_ref_eq]
          exact va_lald hx hb hK hP j 1 (zq_ws_get hj) t2 hi (zq_dl hd hn rfl) (kk H locs rfl rfl hP hS)
      next => cases hv
    next => cases hg
  · split at hg
    next i a r =>
      obtain ⟨v, hv, rfl⟩ := Option.map_eq_some_iff.mp hg
      have k1 := kk H locs rfl rfl hP hS
      have k2 : W p l e R s m args below meth c H locs cells slots Q (F0 m (pc + 1) ls (zq_tr sz ad (va_rf v) :: r.map (zq_tr sz ad))) := k1
      rw [zq_rf_tr] at k2
      unfold zq_rdR at hv
      split at hv
      next h36 =>
        subst h36
        split at hv
        next => cases hv
        next hi =>
          cases hv
          have hlt : i.toNatClampNeg < 36 := Nat.not_le.mp fun q => hi (Or.inr q)
          refine vb_tq (C := "RaffleArmy$Word") hx hb hTw hS hi (v := .ref (ad i.toNatClampNeg)) rfl (zq_dl hd hn rfl) ?_
          have e1 : zq_adr sz ad i.toNatClampNeg = ad i.toNatClampNeg := if_pos (by omega)
          have k3 : W p l e R s m args below meth c H locs cells slots Q (F0 m (pc + 1) ls (.ref (zq_adr sz ad i.toNatClampNeg) :: r.map (zq_tr sz ad))) := k2
          rw [e1] at k3
          exact k3
      next =>
        split at hv
        next t n hkd =>
          split at hv
          next ht =>
            split at hv
            next => cases hv
            next hi =>
              cases hv
              obtain ⟨j, rfl, hj⟩ := zq_kd_at hkd
              show W p l e R s m args below meth c H locs cells slots Q (F0 m pc ls (.int i :: zq_tr sz ad (.ref (64 + j)) :: r.map (zq_tr sz ad)))
              rw [zq_ref_eq]
              rcases ht with rfl | rfl
              · exact va_aldq hx hb hK hP j 4 (zq_ws_get hj) t5 hi (zq_dl hd hn rfl) k2
              · exact va_aldq hx hb hK hP j 5 (zq_ws_get hj) t6 hi (zq_dl hd hn rfl) k2
          next => cases hv
        next => cases hv
    next => cases hg
  · split at hg
    next a r =>
      obtain ⟨v, hv, rfl⟩ := Option.map_eq_some_iff.mp hg
      unfold zq_len at hv
      split at hv
      next h37 =>
        subst h37
        cases hv
        exact va_slen hx hb hX hX1 (Nat.not_le.mpr hX2) hS (zq_dl hd hn rfl) (kk H locs rfl rfl hP hS)
      next =>
        split at hv
        next h36 =>
          subst h36
          cases hv
          exact va_tlen hx hb hTw hS rfl (zq_dl hd hn rfl) (kk H locs rfl rfl hP hS)
        next =>
          split at hv
          next t n hkd =>
            split at hv
            next ht =>
              cases hv
              obtain ⟨j, rfl, hj⟩ := zq_kd_at hkd
              show W p l e R s m args below meth c H locs cells slots Q (F0 m pc ls (zq_tr sz ad (.ref (64 + j)) :: r.map (zq_tr sz ad)))
              rw [zq_ref_eq]
              have k1 := kk H locs rfl rfl hP hS
              match t, ht, hj with
              | 0, _, hj => exact va_alen hx hb hK hP j 0 (zq_ws_get hj) t1 rfl (zq_dl hd hn rfl) k1
              | 1, _, hj => exact va_alen hx hb hK hP j 1 (zq_ws_get hj) t2 rfl (zq_dl hd hn rfl) k1
              | 2, _, hj => exact va_alen hx hb hK hP j 2 (zq_ws_get hj) t3 rfl (zq_dl hd hn rfl) k1
              | 3, _, hj => exact va_alen hx hb hK hP j 3 (zq_ws_get hj) t4 rfl (zq_dl hd hn rfl) k1
              | 4, _, hj => exact va_alen hx hb hK hP j 4 (zq_ws_get hj) t5 rfl (zq_dl hd hn rfl) k1
              | 5, _, hj => exact va_alen hx hb hK hP j 5 (zq_ws_get hj) t6 rfl (zq_dl hd hn rfl) k1
              | t + 6, ht, _ => exact absurd ht (by omega)
            next => cases hv
          next => cases hv
    next => cases hg
  · split at hg
    next x i a r =>
      obtain ⟨h', hv, rfl⟩ := Option.map_eq_some_iff.mp hg
      unfold zq_wrX at hv
      split at hv
      next t n hkd =>
        split at hv
        next ht =>
          subst ht
          split at hv
          next => cases hv
          next hi =>
            cases hv
            obtain ⟨j, rfl, hj⟩ := zq_kd_at hkd
            show W p l e R s m args below meth c H locs cells slots Q (F0 m pc ls (.int x :: .int i :: zq_tr sz ad (.ref (64 + j)) :: r.map (zq_tr sz ad)))
            rw [zq_ref_eq]
            exact va_iast hx hb hK hP (zq_D cA sz ad h) hS j 0 (zq_ws_get hj) t1 hi (zq_dl hd hn rfl) (fun H1 locs1 hP1 _ hS1 => kk H1 locs1 rfl rfl (by rw [zq_wsI (a := 0) (Or.inl rfl) hj]; exact hP1) hS1)
        next => cases hv
      next => cases hv
    next => cases hg
  · split at hg
    next x i a r =>
      obtain ⟨h', hv, rfl⟩ := Option.map_eq_some_iff.mp hg
      unfold zq_wrX at hv
      split at hv
      next t n hkd =>
        split at hv
        next ht =>
          subst ht
          split at hv
          next => cases hv
          next hi =>
            cases hv
            obtain ⟨j, rfl, hj⟩ := zq_kd_at hkd
            show W p l e R s m args below meth c H locs cells slots Q (F0 m pc ls (.int x :: .int i :: zq_tr sz ad (.ref (64 + j)) :: r.map (zq_tr sz ad)))
            rw [zq_ref_eq]
            exact va_cast hx hb hK hP (zq_D cA sz ad h) hS j 2 (zq_ws_get hj) t3 hi (zq_dl hd hn rfl) (fun H1 locs1 hP1 _ hS1 => kk H1 locs1 rfl rfl (by rw [zq_wsI (a := 0) (Or.inr (Or.inl rfl)) hj]; exact hP1) hS1)
        next => cases hv
      next => cases hv
    next => cases hg
  · split at hg
    next x i a r =>
      obtain ⟨h', hv, rfl⟩ := Option.map_eq_some_iff.mp hg
      unfold zq_wrX at hv
      split at hv
      next t n hkd =>
        split at hv
        next ht =>
          subst ht
          split at hv
          next => cases hv
          next hi =>
            cases hv
            obtain ⟨j, rfl, hj⟩ := zq_kd_at hkd
            show W p l e R s m args below meth c H locs cells slots Q (F0 m pc ls (.int x :: .int i :: zq_tr sz ad (.ref (64 + j)) :: r.map (zq_tr sz ad)))
            rw [zq_ref_eq]
            exact va_zast hx hb hK hP (zq_D cA sz ad h) hS j 3 (zq_ws_get hj) t4 hi (zq_dl hd hn rfl) (fun H1 locs1 hP1 _ hS1 => kk H1 locs1 rfl rfl (by rw [zq_wsI (a := 0) (Or.inr (Or.inr rfl)) hj]; exact hP1) hS1)
        next => cases hv
      next => cases hv
    next => cases hg
  · split at hg
    next x i a r =>
      obtain ⟨h', hv, rfl⟩ := Option.map_eq_some_iff.mp hg
      unfold zq_wrL at hv
      split at hv
      next n hkd =>
        split at hv
        next => cases hv
        next hi =>
          cases hv
          obtain ⟨j, rfl, hj⟩ := zq_kd_at hkd
          show W p l e R s m args below meth c H locs cells slots Q (F0 m pc ls (.long x :: .int i :: zq_tr sz ad (.ref (64 + j)) :: r.map (zq_tr sz ad)))
          rw [zq_ref_eq]
          exact va_last hx hb hK hP (zq_D cA sz ad h) hS j 1 (zq_ws_get hj) t2 hi (zq_dl hd hn rfl) (fun H1 locs1 hP1 _ hS1 => kk H1 locs1 rfl rfl (by rw [zq_wsL hj]; exact hP1) hS1)
      next => cases hv
    next => cases hg
  · split at hg
    next x i a r =>
      obtain ⟨h', hv, rfl⟩ := Option.map_eq_some_iff.mp hg
      unfold zq_wrR at hv
      split at hv
      next t n c1 hkd hkx =>
        split at hv
        next ht =>
          split at hv
          next => cases hv
          next hi =>
            cases hv
            obtain ⟨j, rfl, hj⟩ := zq_kd_at hkd
            obtain ⟨jx, rfl, hjx⟩ := zq_kd_at hkx
            show W p l e R s m args below meth c H locs cells slots Q (F0 m pc ls (zq_tr sz ad (.ref (64 + jx)) :: .int i :: zq_tr sz ad (.ref (64 + j)) :: r.map (zq_tr sz ad)))
            rw [zq_ref_eq, zq_ref_eq]
            rcases ht with ⟨rfl, rfl⟩ | ⟨rfl, rfl⟩
            · exact va_astq (r := (zq_R 4, zq_Tf 4, zq_N 4)) hx hb hK hP (zq_D cA sz ad h) hS j 4 jx 4 (zq_ws_get hj) t5 (zq_ws_get hjx) (zq_cl_get (by decide)) hi (zq_dl hd hn rfl) (fun H1 locs1 hP1 _ hS1 => kk H1 locs1 rfl rfl (by rw [zq_wsR (Or.inl rfl) hj, zq_adr_new]; exact hP1) hS1)
            · exact va_astq (r := (zq_R 2, zq_Tf 2, zq_N 2)) hx hb hK hP (zq_D cA sz ad h) hS j 5 jx 2 (zq_ws_get hj) t6 (zq_ws_get hjx) (zq_cl_get (by decide)) hi (zq_dl hd hn rfl) (fun H1 locs1 hP1 _ hS1 => kk H1 locs1 rfl rfl (by rw [zq_wsR (Or.inr rfl) hj, zq_adr_new]; exact hP1) hS1)
        next => cases hv
      next => cases hv
    next => cases hg
  · cases hg
end ZG
end
section
/-! what a method's list says, its bytes say; further words of methods by their number -/
def zq_dk (q : zq_I) (l : List (Nat × Instr × Nat)) : Prop := ∀ e ∈ l, decode q.2.1 e.1 = .ok e.2
theorem zq_zip {α β : Type} {P : α → β → Prop} (d : β) : ∀ (a : List α) (b : List β), (∀ x ∈ a.zip b, P x.1 x.2) → a.length = b.length → ∀ (i : Nat) (q : α), a[i]? = some q → P q (b.getD i d)
  | [], b, _, _, i, q, hq => by simp at hq
  | x :: a, [], _, hl, _, _, _ => by simp at hl
  | x :: a, y :: b, h, hl, i, q, hq => by
    cases i with
    | zero =>
      have h1 : x = q := by simpa using hq
      subst h1
      exact h (x, y) List.mem_cons_self
    | succ j =>
      have h2 := zq_zip d a b (fun z hz => h z (List.mem_cons_of_mem _ hz)) (by simpa using hl) j q (by simpa using hq)
      simpa using h2
theorem zq_blk {α : Type} : ∀ (L : List (List α)) (k : Nat) (q : α), (∀ b ∈ L.dropLast, b.length = 16) → L.flatten[k]? = some q → (L.getD (k / 16) [])[k % 16]? = some q ∨ ∃ b, L.getLast? = some b ∧ 16 < b.length
  | [], k, q, _, h => by simp at h
  | [b], k, q, _, h => by
    by_cases hb : 16 < b.length
    · exact Or.inr ⟨b, rfl, hb⟩
    · have h1 : b[k]? = some q := by simpa using h
      have hk : k < b.length := (List.getElem?_eq_some_iff.mp h1).1
      refine Or.inl ?_
      rw [Nat.div_eq_of_lt (by omega), Nat.mod_eq_of_lt (by omega)]
      exact h1
  | b :: b2 :: L, k, q, hL, h => by
    have hb : b.length = 16 := hL b (by simp)
    rw [List.flatten_cons, List.getElem?_append] at h
    by_cases hk : k < 16
    · rw [if_pos (by omega)] at h
      refine Or.inl ?_
      rw [Nat.div_eq_of_lt hk, Nat.mod_eq_of_lt hk]
      exact h
    · rw [if_neg (by omega), hb] at h
      rcases zq_blk (b2 :: L) (k - 16) q (fun x hx => hL x (by rw [List.dropLast_cons₂]; exact List.mem_cons_of_mem _ hx)) h with h2 | ⟨x, hx, hx2⟩
      · refine Or.inl ?_
        have e1 : k / 16 = (k - 16) / 16 + 1 := by omega
        have e2 : k % 16 = (k - 16) % 16 := by omega
        rw [e1, e2]
        simpa using h2
      · exact Or.inr ⟨x, by simpa using hx, hx2⟩
def zq_MTs : List (List zq_I) := [zq_MT0, zq_MT1, zq_MT2, zq_MT3, zq_MT4, zq_MT5, zq_MT6, zq_MT7, zq_MT8, zq_MT9, zq_MT10, zq_MT11, zq_MT12, zq_MT13, zq_MT14, zq_MT15, zq_MT16]
theorem zq_MTf : zq_MT = zq_MTs.flatten := by
  simp only [zq_MT, zq_MTs, List.flatten_cons, List.flatten_nil, List.append_nil]
theorem zq_MTl : (∀ b ∈ zq_MTs.dropLast, b.length = 16) ∧ ∀ b, zq_MTs.getLast? = some b → ¬ 16 < b.length := by
  refine ⟨?_, fun b hb => ?_⟩
  · intro b hb
    simp only [zq_MTs, List.dropLast, List.mem_cons, List.not_mem_nil, or_false] at hb
    rcases hb with rfl | rfl | rfl | rfl | rfl | rfl | rfl | rfl | rfl | rfl | rfl | rfl | rfl | rfl | rfl | rfl <;> rfl
  · have hb2 : b = zq_MT16 := by
      simp [zq_MTs] at hb
      exact hb.symm
    rw [hb2]
    show ¬ 16 < 9
    decide
theorem zq_dg0 : ∀ x ∈ zq_MT0.zip zq_Lg0, zq_dk x.1 x.2 := List.forall_mem_cons.mpr ⟨zq_d0, List.forall_mem_cons.mpr ⟨zq_d1, List.forall_mem_cons.mpr ⟨zq_d2, List.forall_mem_cons.mpr ⟨zq_d3, List.forall_mem_cons.mpr ⟨zq_d4, List.forall_mem_cons.mpr ⟨zq_d5, List.forall_mem_cons.mpr ⟨zq_d6, List.forall_mem_cons.mpr ⟨zq_d7, List.forall_mem_cons.mpr ⟨zq_d8, List.forall_mem_cons.mpr ⟨zq_d9, List.forall_mem_cons.mpr ⟨zq_d10, List.forall_mem_cons.mpr ⟨zq_d11, List.forall_mem_cons.mpr ⟨zq_d12, List.forall_mem_cons.mpr ⟨zq_d13, List.forall_mem_cons.mpr ⟨zq_d14, List.forall_mem_cons.mpr ⟨zq_d15, fun _ h => absurd h List.not_mem_nil⟩⟩⟩⟩⟩⟩⟩⟩⟩⟩⟩⟩⟩⟩⟩⟩
theorem zq_dg1 : ∀ x ∈ zq_MT1.zip zq_Lg1, zq_dk x.1 x.2 := List.forall_mem_cons.mpr ⟨zq_d16, List.forall_mem_cons.mpr ⟨zq_d17, List.forall_mem_cons.mpr ⟨zq_d18, List.forall_mem_cons.mpr ⟨zq_d19, List.forall_mem_cons.mpr ⟨zq_d20, List.forall_mem_cons.mpr ⟨zq_d21, List.forall_mem_cons.mpr ⟨zq_d22, List.forall_mem_cons.mpr ⟨zq_d23, List.forall_mem_cons.mpr ⟨zq_d24, List.forall_mem_cons.mpr ⟨zq_d25, List.forall_mem_cons.mpr ⟨zq_d26, List.forall_mem_cons.mpr ⟨zq_d27, List.forall_mem_cons.mpr ⟨zq_d28, List.forall_mem_cons.mpr ⟨zq_d29, List.forall_mem_cons.mpr ⟨zq_d30, List.forall_mem_cons.mpr ⟨zq_d31, fun _ h => absurd h List.not_mem_nil⟩⟩⟩⟩⟩⟩⟩⟩⟩⟩⟩⟩⟩⟩⟩⟩
theorem zq_dg2 : ∀ x ∈ zq_MT2.zip zq_Lg2, zq_dk x.1 x.2 := List.forall_mem_cons.mpr ⟨zq_d32, List.forall_mem_cons.mpr ⟨zq_d33, List.forall_mem_cons.mpr ⟨zq_d34, List.forall_mem_cons.mpr ⟨zq_d35, List.forall_mem_cons.mpr ⟨zq_d36, List.forall_mem_cons.mpr ⟨zq_d37, List.forall_mem_cons.mpr ⟨zq_d38, List.forall_mem_cons.mpr ⟨zq_d39, List.forall_mem_cons.mpr ⟨zq_d40, List.forall_mem_cons.mpr ⟨zq_d41, List.forall_mem_cons.mpr ⟨zq_d42, List.forall_mem_cons.mpr ⟨zq_d43, List.forall_mem_cons.mpr ⟨zq_d44, List.forall_mem_cons.mpr ⟨zq_d45, List.forall_mem_cons.mpr ⟨zq_d46, List.forall_mem_cons.mpr ⟨zq_d47, fun _ h => absurd h List.not_mem_nil⟩⟩⟩⟩⟩⟩⟩⟩⟩⟩⟩⟩⟩⟩⟩⟩
theorem zq_dg3 : ∀ x ∈ zq_MT3.zip zq_Lg3, zq_dk x.1 x.2 := List.forall_mem_cons.mpr ⟨zq_d48, List.forall_mem_cons.mpr ⟨zq_d49, List.forall_mem_cons.mpr ⟨zq_d50, List.forall_mem_cons.mpr ⟨zq_d51, List.forall_mem_cons.mpr ⟨zq_d52, List.forall_mem_cons.mpr ⟨zq_d53, List.forall_mem_cons.mpr ⟨zq_d54, List.forall_mem_cons.mpr ⟨zq_d55, List.forall_mem_cons.mpr ⟨zq_d56, List.forall_mem_cons.mpr ⟨zq_d57, List.forall_mem_cons.mpr ⟨zq_d58, List.forall_mem_cons.mpr ⟨zq_d59, List.forall_mem_cons.mpr ⟨zq_d60, List.forall_mem_cons.mpr ⟨zq_d61, List.forall_mem_cons.mpr ⟨zq_d62, List.forall_mem_cons.mpr ⟨zq_d63, fun _ h => absurd h List.not_mem_nil⟩⟩⟩⟩⟩⟩⟩⟩⟩⟩⟩⟩⟩⟩⟩⟩
theorem zq_dg4 : ∀ x ∈ zq_MT4.zip zq_Lg4, zq_dk x.1 x.2 := List.forall_mem_cons.mpr ⟨zq_d64, List.forall_mem_cons.mpr ⟨zq_d65, List.forall_mem_cons.mpr ⟨zq_d66, List.forall_mem_cons.mpr ⟨zq_d67, List.forall_mem_cons.mpr ⟨zq_d68, List.forall_mem_cons.mpr ⟨zq_d69, List.forall_mem_cons.mpr ⟨zq_d70, List.forall_mem_cons.mpr ⟨zq_d71, List.forall_mem_cons.mpr ⟨zq_d72, List.forall_mem_cons.mpr ⟨zq_d73, List.forall_mem_cons.mpr ⟨zq_d74, List.forall_mem_cons.mpr ⟨zq_d75, List.forall_mem_cons.mpr ⟨zq_d76, List.forall_mem_cons.mpr ⟨zq_d77, List.forall_mem_cons.mpr ⟨zq_d78, List.forall_mem_cons.mpr ⟨zq_d79, fun _ h => absurd h List.not_mem_nil⟩⟩⟩⟩⟩⟩⟩⟩⟩⟩⟩⟩⟩⟩⟩⟩
theorem zq_dg5 : ∀ x ∈ zq_MT5.zip zq_Lg5, zq_dk x.1 x.2 := List.forall_mem_cons.mpr ⟨zq_d80, List.forall_mem_cons.mpr ⟨zq_d81, List.forall_mem_cons.mpr ⟨zq_d82, List.forall_mem_cons.mpr ⟨zq_d83, List.forall_mem_cons.mpr ⟨zq_d84, List.forall_mem_cons.mpr ⟨zq_d85, List.forall_mem_cons.mpr ⟨zq_d86, List.forall_mem_cons.mpr ⟨zq_d87, List.forall_mem_cons.mpr ⟨zq_d88, List.forall_mem_cons.mpr ⟨zq_d89, List.forall_mem_cons.mpr ⟨zq_d90, List.forall_mem_cons.mpr ⟨zq_d91, List.forall_mem_cons.mpr ⟨zq_d92, List.forall_mem_cons.mpr ⟨zq_d93, List.forall_mem_cons.mpr ⟨zq_d94, List.forall_mem_cons.mpr ⟨zq_d95, fun _ h => absurd h List.not_mem_nil⟩⟩⟩⟩⟩⟩⟩⟩⟩⟩⟩⟩⟩⟩⟩⟩
theorem zq_dg6 : ∀ x ∈ zq_MT6.zip zq_Lg6, zq_dk x.1 x.2 := List.forall_mem_cons.mpr ⟨zq_d96, List.forall_mem_cons.mpr ⟨zq_d97, List.forall_mem_cons.mpr ⟨zq_d98, List.forall_mem_cons.mpr ⟨zq_d99, List.forall_mem_cons.mpr ⟨zq_d100, List.forall_mem_cons.mpr ⟨zq_d101, List.forall_mem_cons.mpr ⟨zq_d102, List.forall_mem_cons.mpr ⟨zq_d103, List.forall_mem_cons.mpr ⟨zq_d104, List.forall_mem_cons.mpr ⟨zq_d105, List.forall_mem_cons.mpr ⟨zq_d106, List.forall_mem_cons.mpr ⟨zq_d107, List.forall_mem_cons.mpr ⟨zq_d108, List.forall_mem_cons.mpr ⟨zq_d109, List.forall_mem_cons.mpr ⟨zq_d110, List.forall_mem_cons.mpr ⟨zq_d111, fun _ h => absurd h List.not_mem_nil⟩⟩⟩⟩⟩⟩⟩⟩⟩⟩⟩⟩⟩⟩⟩⟩
theorem zq_dg7 : ∀ x ∈ zq_MT7.zip zq_Lg7, zq_dk x.1 x.2 := List.forall_mem_cons.mpr ⟨zq_d112, List.forall_mem_cons.mpr ⟨zq_d113, List.forall_mem_cons.mpr ⟨zq_d114, List.forall_mem_cons.mpr ⟨zq_d115, List.forall_mem_cons.mpr ⟨zq_d116, List.forall_mem_cons.mpr ⟨zq_d117, List.forall_mem_cons.mpr ⟨zq_d118, List.forall_mem_cons.mpr ⟨zq_d119, List.forall_mem_cons.mpr ⟨zq_d120, List.forall_mem_cons.mpr ⟨zq_d121, List.forall_mem_cons.mpr ⟨zq_d122, List.forall_mem_cons.mpr ⟨zq_d123, List.forall_mem_cons.mpr ⟨zq_d124, List.forall_mem_cons.mpr ⟨zq_d125, List.forall_mem_cons.mpr ⟨zq_d126, List.forall_mem_cons.mpr ⟨zq_d127, fun _ h => absurd h List.not_mem_nil⟩⟩⟩⟩⟩⟩⟩⟩⟩⟩⟩⟩⟩⟩⟩⟩
theorem zq_dg8 : ∀ x ∈ zq_MT8.zip zq_Lg8, zq_dk x.1 x.2 := List.forall_mem_cons.mpr ⟨zq_d128, List.forall_mem_cons.mpr ⟨zq_d129, List.forall_mem_cons.mpr ⟨zq_d130, List.forall_mem_cons.mpr ⟨zq_d131, List.forall_mem_cons.mpr ⟨zq_d132, List.forall_mem_cons.mpr ⟨zq_d133, List.forall_mem_cons.mpr ⟨zq_d134, List.forall_mem_cons.mpr ⟨zq_d135, List.forall_mem_cons.mpr ⟨zq_d136, List.forall_mem_cons.mpr ⟨zq_d137, List.forall_mem_cons.mpr ⟨zq_d138, List.forall_mem_cons.mpr ⟨zq_d139, List.forall_mem_cons.mpr ⟨zq_d140, List.forall_mem_cons.mpr ⟨zq_d141, List.forall_mem_cons.mpr ⟨zq_d142, List.forall_mem_cons.mpr ⟨zq_d143, fun _ h => absurd h List.not_mem_nil⟩⟩⟩⟩⟩⟩⟩⟩⟩⟩⟩⟩⟩⟩⟩⟩
theorem zq_dg9 : ∀ x ∈ zq_MT9.zip zq_Lg9, zq_dk x.1 x.2 := List.forall_mem_cons.mpr ⟨zq_d144, List.forall_mem_cons.mpr ⟨zq_d145, List.forall_mem_cons.mpr ⟨zq_d146, List.forall_mem_cons.mpr ⟨zq_d147, List.forall_mem_cons.mpr ⟨zq_d148, List.forall_mem_cons.mpr ⟨zq_d149, List.forall_mem_cons.mpr ⟨zq_d150, List.forall_mem_cons.mpr ⟨zq_d151, List.forall_mem_cons.mpr ⟨zq_d152, List.forall_mem_cons.mpr ⟨zq_d153, List.forall_mem_cons.mpr ⟨zq_d154, List.forall_mem_cons.mpr ⟨zq_d155, List.forall_mem_cons.mpr ⟨zq_d156, List.forall_mem_cons.mpr ⟨zq_d157, List.forall_mem_cons.mpr ⟨zq_d158, List.forall_mem_cons.mpr ⟨zq_d159, fun _ h => absurd h List.not_mem_nil⟩⟩⟩⟩⟩⟩⟩⟩⟩⟩⟩⟩⟩⟩⟩⟩
theorem zq_dg10 : ∀ x ∈ zq_MT10.zip zq_Lg10, zq_dk x.1 x.2 := List.forall_mem_cons.mpr ⟨zq_d160, List.forall_mem_cons.mpr ⟨zq_d161, List.forall_mem_cons.mpr ⟨zq_d162, List.forall_mem_cons.mpr ⟨zq_d163, List.forall_mem_cons.mpr ⟨zq_d164, List.forall_mem_cons.mpr ⟨zq_d165, List.forall_mem_cons.mpr ⟨zq_d166, List.forall_mem_cons.mpr ⟨zq_d167, List.forall_mem_cons.mpr ⟨zq_d168, List.forall_mem_cons.mpr ⟨zq_d169, List.forall_mem_cons.mpr ⟨zq_d170, List.forall_mem_cons.mpr ⟨zq_d171, List.forall_mem_cons.mpr ⟨zq_d172, List.forall_mem_cons.mpr ⟨zq_d173, List.forall_mem_cons.mpr ⟨zq_d174, List.forall_mem_cons.mpr ⟨zq_d175, fun _ h => absurd h List.not_mem_nil⟩⟩⟩⟩⟩⟩⟩⟩⟩⟩⟩⟩⟩⟩⟩⟩
theorem zq_dg11 : ∀ x ∈ zq_MT11.zip zq_Lg11, zq_dk x.1 x.2 := List.forall_mem_cons.mpr ⟨zq_d176, List.forall_mem_cons.mpr ⟨zq_d177, List.forall_mem_cons.mpr ⟨zq_d178, List.forall_mem_cons.mpr ⟨zq_d179, List.forall_mem_cons.mpr ⟨zq_d180, List.forall_mem_cons.mpr ⟨zq_d181, List.forall_mem_cons.mpr ⟨zq_d182, List.forall_mem_cons.mpr ⟨zq_d183, List.forall_mem_cons.mpr ⟨zq_d184, List.forall_mem_cons.mpr ⟨zq_d185, List.forall_mem_cons.mpr ⟨zq_d186, List.forall_mem_cons.mpr ⟨zq_d187, List.forall_mem_cons.mpr ⟨zq_d188, List.forall_mem_cons.mpr ⟨zq_d189, List.forall_mem_cons.mpr ⟨zq_d190, List.forall_mem_cons.mpr ⟨zq_d191, fun _ h => absurd h List.not_mem_nil⟩⟩⟩⟩⟩⟩⟩⟩⟩⟩⟩⟩⟩⟩⟩⟩
theorem zq_dg12 : ∀ x ∈ zq_MT12.zip zq_Lg12, zq_dk x.1 x.2 := List.forall_mem_cons.mpr ⟨zq_d192, List.forall_mem_cons.mpr ⟨zq_d193, List.forall_mem_cons.mpr ⟨zq_d194, List.forall_mem_cons.mpr ⟨zq_d195, List.forall_mem_cons.mpr ⟨zq_d196, List.forall_mem_cons.mpr ⟨zq_d197, List.forall_mem_cons.mpr ⟨zq_d198, List.forall_mem_cons.mpr ⟨zq_d199, List.forall_mem_cons.mpr ⟨zq_d200, List.forall_mem_cons.mpr ⟨zq_d201, List.forall_mem_cons.mpr ⟨zq_d202, List.forall_mem_cons.mpr ⟨zq_d203, List.forall_mem_cons.mpr ⟨zq_d204, List.forall_mem_cons.mpr ⟨zq_d205, List.forall_mem_cons.mpr ⟨zq_d206, List.forall_mem_cons.mpr ⟨zq_d207, fun _ h => absurd h List.not_mem_nil⟩⟩⟩⟩⟩⟩⟩⟩⟩⟩⟩⟩⟩⟩⟩⟩
theorem zq_dg13 : ∀ x ∈ zq_MT13.zip zq_Lg13, zq_dk x.1 x.2 := List.forall_mem_cons.mpr ⟨zq_d208, List.forall_mem_cons.mpr ⟨zq_d209, List.forall_mem_cons.mpr ⟨zq_d210, List.forall_mem_cons.mpr ⟨zq_d211, List.forall_mem_cons.mpr ⟨zq_d212, List.forall_mem_cons.mpr ⟨zq_d213, List.forall_mem_cons.mpr ⟨zq_d214, List.forall_mem_cons.mpr ⟨zq_d215, List.forall_mem_cons.mpr ⟨zq_d216, List.forall_mem_cons.mpr ⟨zq_d217, List.forall_mem_cons.mpr ⟨zq_d218, List.forall_mem_cons.mpr ⟨zq_d219, List.forall_mem_cons.mpr ⟨zq_d220, List.forall_mem_cons.mpr ⟨zq_d221, List.forall_mem_cons.mpr ⟨zq_d222, List.forall_mem_cons.mpr ⟨zq_d223, fun _ h => absurd h List.not_mem_nil⟩⟩⟩⟩⟩⟩⟩⟩⟩⟩⟩⟩⟩⟩⟩⟩
theorem zq_dg14 : ∀ x ∈ zq_MT14.zip zq_Lg14, zq_dk x.1 x.2 := List.forall_mem_cons.mpr ⟨zq_d224, List.forall_mem_cons.mpr ⟨zq_d225, List.forall_mem_cons.mpr ⟨zq_d226, List.forall_mem_cons.mpr ⟨zq_d227, List.forall_mem_cons.mpr ⟨zq_d228, List.forall_mem_cons.mpr ⟨zq_d229, List.forall_mem_cons.mpr ⟨zq_d230, List.forall_mem_cons.mpr ⟨zq_d231, List.forall_mem_cons.mpr ⟨zq_d232, List.forall_mem_cons.mpr ⟨zq_d233, List.forall_mem_cons.mpr ⟨zq_d234, List.forall_mem_cons.mpr ⟨zq_d235, List.forall_mem_cons.mpr ⟨zq_d236, List.forall_mem_cons.mpr ⟨zq_d237, List.forall_mem_cons.mpr ⟨zq_d238, List.forall_mem_cons.mpr ⟨zq_d239, fun _ h => absurd h List.not_mem_nil⟩⟩⟩⟩⟩⟩⟩⟩⟩⟩⟩⟩⟩⟩⟩⟩
theorem zq_dg15 : ∀ x ∈ zq_MT15.zip zq_Lg15, zq_dk x.1 x.2 := List.forall_mem_cons.mpr ⟨zq_d240, List.forall_mem_cons.mpr ⟨zq_d241, List.forall_mem_cons.mpr ⟨zq_d242, List.forall_mem_cons.mpr ⟨zq_d243, List.forall_mem_cons.mpr ⟨zq_d244, List.forall_mem_cons.mpr ⟨zq_d245, List.forall_mem_cons.mpr ⟨zq_d246, List.forall_mem_cons.mpr ⟨zq_d247, List.forall_mem_cons.mpr ⟨zq_d248, List.forall_mem_cons.mpr ⟨zq_d249, List.forall_mem_cons.mpr ⟨zq_d250, List.forall_mem_cons.mpr ⟨zq_d251, List.forall_mem_cons.mpr ⟨zq_d252, List.forall_mem_cons.mpr ⟨zq_d253, List.forall_mem_cons.mpr ⟨zq_d254, List.forall_mem_cons.mpr ⟨zq_d255, fun _ h => absurd h List.not_mem_nil⟩⟩⟩⟩⟩⟩⟩⟩⟩⟩⟩⟩⟩⟩⟩⟩
theorem zq_dg16 : ∀ x ∈ zq_MT16.zip zq_Lg16, zq_dk x.1 x.2 := List.forall_mem_cons.mpr ⟨zq_d256, List.forall_mem_cons.mpr ⟨zq_d257, List.forall_mem_cons.mpr ⟨zq_d258, List.forall_mem_cons.mpr ⟨zq_d259, List.forall_mem_cons.mpr ⟨zq_d260, List.forall_mem_cons.mpr ⟨zq_d261, List.forall_mem_cons.mpr ⟨zq_d262, List.forall_mem_cons.mpr ⟨zq_d263, List.forall_mem_cons.mpr ⟨zq_d264, fun _ h => absurd h List.not_mem_nil⟩⟩⟩⟩⟩⟩⟩⟩⟩
theorem zq_dgs : ∀ x ∈ zq_MTs.zip zq_Lgs, (∀ y ∈ x.1.zip x.2, zq_dk y.1 y.2) ∧ x.1.length = x.2.length := List.forall_mem_cons.mpr ⟨⟨zq_dg0, rfl⟩, List.forall_mem_cons.mpr ⟨⟨zq_dg1, rfl⟩, List.forall_mem_cons.mpr ⟨⟨zq_dg2, rfl⟩, List.forall_mem_cons.mpr ⟨⟨zq_dg3, rfl⟩, List.forall_mem_cons.mpr ⟨⟨zq_dg4, rfl⟩, List.forall_mem_cons.mpr ⟨⟨zq_dg5, rfl⟩, List.forall_mem_cons.mpr ⟨⟨zq_dg6, rfl⟩, List.forall_mem_cons.mpr ⟨⟨zq_dg7, rfl⟩, List.forall_mem_cons.mpr ⟨⟨zq_dg8, rfl⟩, List.forall_mem_cons.mpr ⟨⟨zq_dg9, rfl⟩, List.forall_mem_cons.mpr ⟨⟨zq_dg10, rfl⟩, List.forall_mem_cons.mpr ⟨⟨zq_dg11, rfl⟩, List.forall_mem_cons.mpr ⟨⟨zq_dg12, rfl⟩, List.forall_mem_cons.mpr ⟨⟨zq_dg13, rfl⟩, List.forall_mem_cons.mpr ⟨⟨zq_dg14, rfl⟩, List.forall_mem_cons.mpr ⟨⟨zq_dg15, rfl⟩, List.forall_mem_cons.mpr ⟨⟨zq_dg16, rfl⟩, fun _ h => absurd h List.not_mem_nil⟩⟩⟩⟩⟩⟩⟩⟩⟩⟩⟩⟩⟩⟩⟩⟩⟩
theorem zq_lnkg : ∀ b ∈ zq_Lgs, ∀ l ∈ b, ∀ e ∈ l, zq_lnk e.2.1 e.2.2 = true := by decide +kernel
theorem zq_lnkw : ∀ e ∈ zq_L265, zq_lnk e.2.1 e.2.2 = true := by decide +kernel
theorem zq_MTlen : zq_MT.length = 265 := by
  simp only [zq_MT, List.length_append, zq_MT0, zq_MT1, zq_MT2, zq_MT3, zq_MT4, zq_MT5, zq_MT6, zq_MT7, zq_MT8, zq_MT9, zq_MT10, zq_MT11, zq_MT12, zq_MT13, zq_MT14, zq_MT15, zq_MT16, List.length_cons, List.length_nil]
theorem zq_dec0 {b : List zq_I} {LL : List (List (Nat × Instr × Nat))} {i : Nat} {q : zq_I} {pc : Nat} {x : Instr × Nat} (h1 : b[i]? = some q) (h2 : (∀ y ∈ b.zip LL, zq_dk y.1 y.2) ∧ b.length = LL.length) (hk : ∀ l ∈ LL, ∀ e ∈ l, zq_lnk e.2.1 e.2.2 = true) (hm : (pc, x) ∈ LL.getD i []) : decode q.2.1 pc = .ok x ∧ zq_lnk x.1 x.2 = true := by
  have h3 : zq_dk q (LL.getD i []) := zq_zip (P := zq_dk) [] b LL h2.1 h2.2 i q h1
  have h4 := h3 (pc, x) hm
  refine ⟨h4, ?_⟩
  rw [List.getD_eq_getElem?_getD] at hm
  cases hx : LL[i]? with
  | none => rw [hx] at hm; simp at hm
  | some l =>
    rw [hx] at hm
    exact hk l (List.mem_of_getElem? hx) (pc, x) hm
theorem zq_lnkd (g : Nat) : ∀ l ∈ zq_Lgs.getD g [], ∀ e ∈ l, zq_lnk e.2.1 e.2.2 = true := by
  intro l hl
  rw [List.getD_eq_getElem?_getD] at hl
  cases hx : zq_Lgs[g]? with
  | none => rw [hx] at hl; simp at hl
  | some b => rw [hx] at hl; exact zq_lnkg b (List.mem_of_getElem? hx) l hl
/-- an instruction of a method, out of its list -/
theorem zq_dec {k : Nat} {q : zq_I} (hq : zq_MT[k]? = some q) {pc : Nat} {x : Instr × Nat} (hc : zq_code k pc = some x) : decode q.2.1 pc = .ok x ∧ zq_lnk x.1 x.2 = true := by
  have hk : k < 265 := by rw [← zq_MTlen]; exact (List.getElem?_eq_some_iff.mp hq).1
  have hc2 : zq_cd k = (zq_Lgs.getD (k / 16) []).getD (k % 16) [] := if_neg (show ¬ k = 265 by omega)
  have hm : (pc, x) ∈ zq_cd k := zq_lk hc
  rw [hc2] at hm
  rw [zq_MTf] at hq
  rcases zq_blk zq_MTs k q zq_MTl.1 hq with h1 | ⟨b, hb, hb2⟩
  · cases hg : zq_MTs[k / 16]? with
    | none =>
      rw [List.getD_eq_getElem?_getD, hg] at h1
      simp at h1
    | some b =>
      rw [List.getD_eq_getElem?_getD, hg] at h1
      exact zq_dec0 (b := b) h1 (zq_zip (P := fun (a : List zq_I) (c : List (List (Nat × Instr × Nat))) => (∀ y ∈ a.zip c, zq_dk y.1 y.2) ∧ a.length = c.length) [] zq_MTs zq_Lgs zq_dgs rfl (k / 16) b hg) (zq_lnkd (k / 16)) hm
  · exact absurd hb2 (zq_MTl.2 b hb)
theorem zq_mkg : ∀ b, b < 17 → ∀ i, i < (zq_MTs.getD b []).length → zq_mchk ((zq_MTs.getD b []).getD i zq_m0) (zq_mp.getD (i + b * 16) (0, 0, 0)) = true := by
  intro b hb
  match b, hb with
  | 0, _ => exact zq_mk0
  | 1, _ => exact zq_mk1
  | 2, _ => exact zq_mk2
  | 3, _ => exact zq_mk3
  | 4, _ => exact zq_mk4
  | 5, _ => exact zq_mk5
  | 6, _ => exact zq_mk6
  | 7, _ => exact zq_mk7
  | 8, _ => exact zq_mk8
  | 9, _ => exact zq_mk9
  | 10, _ => exact zq_mk10
  | 11, _ => exact zq_mk11
  | 12, _ => exact zq_mk12
  | 13, _ => exact zq_mk13
  | 14, _ => exact zq_mk14
  | 15, _ => exact zq_mk15
  | 16, _ => exact zq_mk16
  | n + 17, h => exact absurd h (by omega)
theorem zq_mok {k : Nat} {q : zq_I} (hq : zq_MT[k]? = some q) : zq_cw q ∈ zq_WG ∧ ∃ pz, zq_mchk q pz = true := by
  refine ⟨zq_cok q (List.mem_of_getElem? hq), ?_⟩
  have hk : k < 265 := by rw [← zq_MTlen]; exact (List.getElem?_eq_some_iff.mp hq).1
  rw [zq_MTf] at hq
  rcases zq_blk zq_MTs k q zq_MTl.1 hq with h1 | ⟨b, hb, hb2⟩
  · have h2 := (List.getElem?_eq_some_iff.mp h1)
    obtain ⟨h3, h4⟩ := h2
    refine ⟨zq_mp.getD (k % 16 + k / 16 * 16) (0, 0, 0), ?_⟩
    · have h5 := zq_mkg (k / 16) (by omega) (k % 16) h3
      rw [List.getD_eq_getElem?_getD (i := k % 16), h1] at h5
      exact h5
  · exact absurd hb2 (zq_MTl.2 b hb)
end
section
/-! what is made; the three methods that are one step -/
def zq_ks (kd : zK) : Nat := match kd.1 with
  | 0 => zq_N kd.2
  | _ => kd.2
def zq_ns (h : zH) : Nat := (h.1.map zq_ks).sum
theorem zq_ns_mk (h : zH) (kd : zK) : zq_ns (zq_mk h kd) = zq_ns h + zq_ks kd := by
  unfold zq_ns zq_mk
  rw [List.map_append, List.sum_append]
  simp
theorem zq_len_mk (h : zH) (kd : zK) : (zq_mk h kd).1.length = h.1.length + 1 := by
  unfold zq_mk
  simp
theorem zq_cat_tr (sz : Nat) (ad : Nat → Nat) (st : List Value) : ((st.map (zq_tr sz ad)).map fun v => v.category).sum = zq_cat st := by
  unfold zq_cat
  rw [List.map_map]
  congr 1
  apply List.map_congr_left
  intro v _
  exact zq_tr_cat sz ad v
theorem zq_dflt : ∀ ci, ci < 11 → ∀ k, k < zq_N ci → defaultValue (zq_ty ci k) = (match zq_tag (zq_ty ci k) with | 0 => Value.int 0 | 1 => Value.long 0 | _ => Value.null) := by decide +kernel
theorem zq_arrc : zq_has (76 + 113) (.arrayClass .char) = true ∧ zq_has (112 + 113) (.arrayClass .int) = true ∧ zq_has (254 + 113) (.arrayClass .long) = true ∧ zq_has (1322 + 113) (.arrayClass .boolean) = true := by decide +kernel
theorem zq_arrin : (Cond.arrayClass .char) ∈ zq_WG ∧ (Cond.arrayClass .int) ∈ zq_WG ∧ (Cond.arrayClass .long) ∈ zq_WG ∧ (Cond.arrayClass .boolean) ∈ zq_WG := ⟨zq_in zq_arrc.1, zq_in zq_arrc.2.1, zq_in zq_arrc.2.2.1, zq_in zq_arrc.2.2.2⟩
theorem zq_mathc : zq_has 753 (.code Lib.Math.max.name Lib.Math.max.code 2 (some .int)) = true ∧ zq_has 750 (.code Lib.Math.min.name Lib.Math.min.code 2 (some .int)) = true ∧ zq_has 752 (.static Lib.Math.max.name) = true ∧ zq_has 749 (.static Lib.Math.min.name) = true ∧ zq_has 127 (.initialized "java/lang/Math") = true ∧ zq_has 140 (.code Lib.objectInit ⟨#[0xb1]⟩ 1 none) = true ∧ zq_has 139 (.instanceMethod Lib.objectInit) = true := by decide +kernel
section ZG
variable {dC : Nat → ClassId} {dI : Nat → Nat → Nat} {cA : Nat → ClassId} {sz : Nat} {ad : Nat → Nat} {sc : zX}
variable {p : Program} {l : Launch} {e : Env} {R : Room} {s : State} {m : MethodId} {args : Array Value} {below : List Frame} {meth : Method} {c : Code} {H : Heap} {locs : List Loc} {cells slots : Nat} {Q : State → Prop}
variable {cc : ByteArray} {ls : Array Slot} {nL pc o len : Nat} {ini : Bool} {ins : Instr} {lv : List (Option Value)} {st : List Value} {h : zH} {c' : zC}
theorem zq_sizeW {g : JFrame} (kk : H.size ≤ s.heap.size + cells → W p l e R s m args below meth c H locs cells slots Q g) : W p l e R s m args below meth c H locs cells slots Q g := fun T hT X => kk (by
  have h1 := X.same.2.2.1
  have h2 : T.heap.size ≤ s.heap.size + cells := h1
  rw [hT] at h2
  exact h2) T hT X
/-- where the new cell lies -/
theorem zq_where {a : Nat} {e0 : va_E} {H1 : Heap} {kd : zK} (hP : va_P (dC, dI) zq_cl (zq_ws cA sz ad h ++ [(a, e0)]) H1) (hD : va_D (fun q => sz ≤ q) (zq_ws cA sz ad h ++ [(a, e0)])) (hz : H1.size ≤ sz + h.1.length + 1) : a = sz + h.1.length := by
  have hlen : (zq_ws cA sz ad h).length = h.1.length := by unfold zq_ws; rw [List.length_mapIdx]
  have hlast : (zq_ws cA sz ad h ++ [(a, e0)])[h.1.length]? = some (a, e0) := by
    rw [List.getElem?_append_right (by omega), hlen]
    simp
  have h1 : a < H1.size := (hP _ _ hlast).lt
  have h2 : sz ≤ a := hD.2 _ _ hlast
  by_cases h3 : a < sz + h.1.length
  · exfalso
    have h4 : a - sz < h.1.length := by omega
    have h5 : (zq_ws cA sz ad h)[a - sz]? = some (sz + (a - sz), zq_ce cA sz ad (h.1[a - sz]) h.2 (64 + (a - sz))) := zq_ws_get (List.getElem?_eq_getElem h4)
    have h6 : (zq_ws cA sz ad h ++ [(a, e0)])[a - sz]? = some (sz + (a - sz), zq_ce cA sz ad (h.1[a - sz]) h.2 (64 + (a - sz))) := by
      rw [List.getElem?_append_left (by omega)]
      exact h5
    have h7 := hD.1 _ _ _ _ h6 hlast (by show sz + (a - sz) = a; omega)
    omega
  · omega
theorem zq_g9_ok {al : Bool} (cx : zq_cx dC dI cA sz ad sc p s m args meth c cc nL o ini) (hd : decode cc pc = .ok (ins, len)) (hn : zq_lnk ins len = true) (hg : zq_g9 al o ins pc lv st h = some c') (hP : va_P (dC, dI) zq_cl (zq_ws cA sz ad h) H) (hS : va_S (fun q => sz ≤ q) s.heap H locs)
    (hacc : al = true → s.heap.size + cells = sz + h.1.length) (hrc : cells + (c'.2.2.2.1.length - h.1.length) ≤ R.cells) (hrs : slots + (zq_ns c'.2.2.2 - zq_ns h) ≤ R.slots)
    (kk : ∀ H' locs', c'.2.1 = lv → va_P (dC, dI) zq_cl (zq_ws cA sz ad c'.2.2.2) H' → va_S (fun q => sz ≤ q) s.heap H' locs' → W p l e R s m args below meth c H' locs' (cells + (c'.2.2.2.1.length - h.1.length)) (slots + (zq_ns c'.2.2.2 - zq_ns h)) Q (F0 m c'.1 ls (c'.2.2.1.map (zq_tr sz ad)))) : W p l e R s m args below meth c H locs cells slots Q (F0 m pc ls (st.map (zq_tr sz ad))) := by
  obtain ⟨hx, hb, hml, hown, hts, henv, hin, ho⟩ := cx
  obtain ⟨hK, hNm, hNf, ⟨hAO1, hAO2⟩, -, -, -, -, -, -, -, -, hadlt, hszH⟩ := id henv
  obtain ⟨t1, t2, t3, t4, t5, t6⟩ := zq_tysx cA
  obtain ⟨w1, w2, w3, w4⟩ := zq_arrin
  have hA : ∀ q : Nat, s.heap.size ≤ q → (fun q => sz ≤ q) q := fun q h => Nat.le_trans hszH h
  unfold zq_g9 at hg
  split at hg
  · split at hg
    next hal =>
      have hacc' := hacc hal
      split at hg
      next e1 he =>
        obtain ⟨ci, p1, p2, p3⟩ := e1
        cases hg
        have hpk := zq_npk o ho _ (zq_lk he)
        simp only [Bool.and_eq_true, decide_eq_true_eq] at hpk
        obtain ⟨⟨⟨hci, hcl⟩, hinst⟩, hini⟩ := hpk
        dsimp only at kk hrc hrs
        rw [zq_len_mk] at kk hrc
        rw [zq_ns_mk] at kk hrs
        have e1 : h.1.length + 1 - h.1.length = 1 := by omega
        have e2 : zq_ns h + zq_ks (0, ci) - zq_ns h = zq_N ci := by
          show zq_ns h + zq_N ci - zq_ns h = zq_N ci
          omega
        rw [e1] at kk hrc
        rw [e2] at kk hrs
        have hdl : decode cc pc = .ok (.new _, 3) := zq_dl hd hn rfl
        refine va_new (D := (dC, dI)) (ci := ci) (fs := (List.range (zq_N ci)).map (fun k => zq_tr sz ad (zq_fv (zq_tag (zq_ty ci k)) (zq_z0 h.2 (64 + h.1.length)) (64 + h.1.length) k))) hx hb hts (zq_lay hci) (zq_ty ci) (zq_tyok ci hci) hown (hts _ (zq_in hcl)) (hts _ (zq_in hinst)) (hts _ (zq_in hini)) hK hP (zq_D cA sz ad h) hS hA (zq_cl_get hci) (fun j hj => ?_) hrc hrs hdl (fun q H1 hP1 hD1 hS1 => ?_)
        · rw [zq_dflt ci hci j hj]
          unfold vp_V
          rw [List.getD_eq_getElem?_getD, zq_fs_get hj]
          show _ = zq_tr sz ad (zq_fv (zq_tag (zq_ty ci j)) (zq_z0 h.2 (64 + h.1.length)) (64 + h.1.length) j)
          unfold zq_fv
          split
          · next h0 => rw [h0]; simp [zq_z0, zq_tr]
          · next h0 => rw [h0]; simp [zq_z0, zq_tr]
          · next h0 h00 =>
            have h000 : zq_tag (zq_ty ci j) = 2 := by
              have key : ∀ ty : FieldType, zq_tag ty = 0 ∨ zq_tag ty = 1 ∨ zq_tag ty = 2 := by intro ty; cases ty <;> simp [zq_tag]
              rcases key (zq_ty ci j) with q | q | q
              · exact absurd q h0
              · exact absurd q h00
              · exact q
            rw [h000]
            simp [zq_z0, zq_tr, va_rf]
        · refine zq_sizeW (fun hz => ?_)
          have hq := zq_where (kd := (0, ci)) hP1 hD1 (by omega)
          subst hq
          have k1 := kk H1 locs rfl (by rw [zq_ws_app]; exact hP1) hS1
          have k2 : W p l e R s m args below meth c H1 locs (cells + 1) (slots + zq_N ci) Q (F0 m (pc + 3) ls (.ref (zq_adr sz ad (64 + h.1.length)) :: st.map (zq_tr sz ad))) := k1
          rw [zq_adr_new] at k2
          exact k2
      next => cases hg
    next => cases hg
  · split at hg
    next hal =>
      have hacc' := hacc hal
      split at hg
      next t n r ht =>
        split at hg
        next => cases hg
        next hb1 =>
          cases hg
          have hn0 : ¬ n < 0 := fun q => hb1 (Or.inl q)
          have hn1 : n.toNatClampNeg ≤ 100000 := Nat.not_lt.mp fun q => hb1 (Or.inr q)
          dsimp only at kk hrc hrs
          rw [zq_len_mk] at kk hrc
          rw [zq_ns_mk] at kk hrs
          have e1 : h.1.length + 1 - h.1.length = 1 := by omega
          rw [e1] at kk hrc
          have fin : ∀ (t : Nat) (ty : FieldType) (a0 : vp_A) (t0 : Nat), zq_ks (t, n.toNatClampNeg) = n.toNatClampNeg → (zq_tys cA)[t0]? = some (cA t, ty) → (∀ cB : ClassId, va_RA s cB ty → va_RA s (cA t) ty → cB = cA t) → zq_ce cA sz ad (t, n.toNatClampNeg) (zq_z0 h.2 (64 + h.1.length)) (64 + h.1.length) = .inl (cA t, a0) →
              (∀ H' locs', lv = lv → va_P (dC, dI) zq_cl (zq_ws cA sz ad (zq_mk h (t, n.toNatClampNeg))) H' → va_S (fun q => sz ≤ q) s.heap H' locs' → W p l e R s m args below meth c H' locs' (cells + 1) (slots + (zq_ns h + zq_ks (t, n.toNatClampNeg) - zq_ns h)) Q (F0 m (pc + 2) ls ((.ref (64 + h.1.length) :: r).map (zq_tr sz ad)))) →
              ∀ (q : Nat) (cB : ClassId) (H1 : Heap), va_K (dC, dI) zq_cl (zq_tys cA ++ [(cB, ty)]) s → va_P (dC, dI) zq_cl (zq_ws cA sz ad h ++ [(q, .inl (cB, a0))]) H1 → va_D (fun q => sz ≤ q) (zq_ws cA sz ad h ++ [(q, .inl (cB, a0))]) → va_S (fun q => sz ≤ q) s.heap H1 locs →
                W p l e R s m args below meth c H1 locs (cells + 1) (slots + n.toNatClampNeg) Q (F0 m (pc + 2) ls (.ref q :: r.map (zq_tr sz ad))) := by
            intro t ty a0 t0 hks ht0 huniq hce kk q cB H1 hK1 hP1 hD1 hS1
            have hcB : cB = cA t := huniq cB ((hK1.2 6 (cB, ty) rfl).2) ((hK.2 t0 _ ht0).2)
            subst hcB
            refine zq_sizeW (fun hz => ?_)
            have hq := zq_where (kd := (0, 0)) hP1 hD1 (by omega)
            subst hq
            have k1 := kk H1 locs rfl (by rw [zq_ws_app, hce]; exact hP1) hS1
            have k2 : W p l e R s m args below meth c H1 locs (cells + 1) (slots + (zq_ns h + zq_ks (t, n.toNatClampNeg) - zq_ns h)) Q (F0 m (pc + 2) ls (.ref (zq_adr sz ad (64 + h.1.length)) :: r.map (zq_tr sz ad))) := k1
            rw [zq_adr_new, hks, show zq_ns h + n.toNatClampNeg - zq_ns h = n.toNatClampNeg by omega] at k2
            exact k2
          have hzI : (zq_z0 h.2 (64 + h.1.length)).1 (64 + h.1.length) = fun _ => 0 := funext fun b => if_pos rfl
          have hzL : (zq_z0 h.2 (64 + h.1.length)).2.1 (64 + h.1.length) = fun _ => 0 := funext fun b => if_pos rfl
          have hsl : slots + n.toNatClampNeg ≤ R.slots := by
            have hks : zq_ks (t, n.toNatClampNeg) = n.toNatClampNeg := by
              unfold zq_at at ht
              split at ht <;> cases ht <;> rfl
            rw [hks] at hrs
            omega
          unfold zq_at at ht
          split at ht
          · cases ht
            refine va_newa (D := (dC, dI)) (atype := .int) (ty := .int) (a0 := (n.toNatClampNeg, .inl (fun _ => 0))) hx hb (hts _ w2) rfl hK hP (zq_D cA sz ad h) hS hA (fun _ => rfl) hn0 rfl (by show n.toNatClampNeg * 4 ≤ _; omega) hrc hsl (zq_dl hd hn rfl) ?_
            exact fin 1 .int _ 0 rfl t1 (fun cB h1 h2 => Option.some.inj (h1.symm.trans h2)) (by show Sum.inl (cA 1, n.toNatClampNeg, Sum.inl ((zq_z0 h.2 (64 + h.1.length)).1 (64 + h.1.length))) = _; rw [hzI]) kk
          · cases ht
            refine va_newa (D := (dC, dI)) (atype := .long) (ty := .long) (a0 := (n.toNatClampNeg, .inr (.inl (fun _ => 0)))) hx hb (hts _ w3) rfl hK hP (zq_D cA sz ad h) hS hA (fun _ => rfl) hn0 rfl (by show n.toNatClampNeg * 8 ≤ _; omega) hrc hsl (zq_dl hd hn rfl) ?_
            exact fin 2 .long _ 1 rfl t2 (fun cB h1 h2 => Option.some.inj (h1.symm.trans h2)) (by show Sum.inl (cA 2, n.toNatClampNeg, Sum.inr (Sum.inl ((zq_z0 h.2 (64 + h.1.length)).2.1 (64 + h.1.length)))) = _; rw [hzL]) kk
          · cases ht
            refine va_newa (D := (dC, dI)) (atype := .char) (ty := .char) (a0 := (n.toNatClampNeg, .inl (fun _ => 0))) hx hb (hts _ w1) rfl hK hP (zq_D cA sz ad h) hS hA (fun _ => rfl) hn0 rfl (by show n.toNatClampNeg * 2 ≤ _; omega) hrc hsl (zq_dl hd hn rfl) ?_
            exact fin 3 .char _ 2 rfl t3 (fun cB h1 h2 => Option.some.inj (h1.symm.trans h2)) (by show Sum.inl (cA 3, n.toNatClampNeg, Sum.inl ((zq_z0 h.2 (64 + h.1.length)).1 (64 + h.1.length))) = _; rw [hzI]) kk
          · cases ht
            refine va_newa (D := (dC, dI)) (atype := .boolean) (ty := .boolean) (a0 := (n.toNatClampNeg, .inl (fun _ => 0))) hx hb (hts _ w4) rfl hK hP (zq_D cA sz ad h) hS hA (fun _ => rfl) hn0 rfl (by show n.toNatClampNeg * 1 ≤ _; omega) hrc hsl (zq_dl hd hn rfl) ?_
            exact fin 4 .boolean _ 3 rfl t4 (fun cB h1 h2 => Option.some.inj (h1.symm.trans h2)) (by show Sum.inl (cA 4, n.toNatClampNeg, Sum.inl ((zq_z0 h.2 (64 + h.1.length)).1 (64 + h.1.length))) = _; rw [hzI]) kk
          · cases ht
      next => cases hg
    next => cases hg
  · split at hg
    next hal =>
      have hacc' := hacc hal
      split at hg
      next e1 n r he =>
        obtain ⟨ci, p1, p2, p3⟩ := e1
        have hpk := zq_npk o ho _ (zq_lk he)
        simp only [Bool.and_eq_true, decide_eq_true_eq] at hpk
        obtain ⟨⟨⟨hci, hcl⟩, hinst⟩, hini⟩ := hpk
        split at hg
        next => cases hg
        next hb1 =>
          have hn0 : ¬ n < 0 := fun q => hb1 (Or.inl q)
          have hn1 : n.toNatClampNeg ≤ 100000 := Nat.not_lt.mp fun q => hb1 (Or.inr q)
          have e1 : h.1.length + 1 - h.1.length = 1 := by omega
          have fin : ∀ (t : Nat) (C : String) (t0 : Nat), zq_ks (t, n.toNatClampNeg) = n.toNatClampNeg → (zq_tys cA)[t0]? = some (cA t, .object C) → zq_ce cA sz ad (t, n.toNatClampNeg) (zq_z0 h.2 (64 + h.1.length)) (64 + h.1.length) = .inl (cA t, n.toNatClampNeg, .inr (.inr (.inr (.inr (fun _ => none))))) →
              (∀ H' locs', lv = lv → va_P (dC, dI) zq_cl (zq_ws cA sz ad (zq_mk h (t, n.toNatClampNeg))) H' → va_S (fun q => sz ≤ q) s.heap H' locs' → W p l e R s m args below meth c H' locs' (cells + 1) (slots + (zq_ns h + zq_ks (t, n.toNatClampNeg) - zq_ns h)) Q (F0 m (pc + 3) ls ((.ref (64 + h.1.length) :: r).map (zq_tr sz ad)))) →
              ∀ (q : Nat) (cB : ClassId) (H1 : Heap), va_K (dC, dI) zq_cl (zq_tys cA ++ [(cB, .object C)]) s → va_P (dC, dI) zq_cl (zq_ws cA sz ad h ++ [(q, .inl (cB, n.toNatClampNeg, .inr (.inr (.inr (.inr (fun _ => none))))))]) H1 → va_D (fun q => sz ≤ q) (zq_ws cA sz ad h ++ [(q, .inl (cB, n.toNatClampNeg, .inr (.inr (.inr (.inr (fun _ => none))))))]) → va_S (fun q => sz ≤ q) s.heap H1 locs →
                W p l e R s m args below meth c H1 locs (cells + 1) (slots + n.toNatClampNeg) Q (F0 m (pc + 3) ls (.ref q :: r.map (zq_tr sz ad))) := by
            intro t C t0 hks ht0 hce kk q cB H1 hK1 hP1 hD1 hS1
            have hcB : cB = cA t := by
              obtain ⟨kA, comp, -, -, -, h4⟩ := (hK1.2 6 (cB, .object C) rfl).2
              obtain ⟨kA2, comp2, -, -, -, h5⟩ := (hK.2 t0 _ ht0).2
              exact Option.some.inj (h4.symm.trans h5)
            subst hcB
            refine zq_sizeW (fun hz => ?_)
            have hq := zq_where (kd := (0, 0)) hP1 hD1 (by omega)
            subst hq
            have k1 := kk H1 locs rfl (by rw [zq_ws_app, hce]; exact hP1) hS1
            have k2 : W p l e R s m args below meth c H1 locs (cells + 1) (slots + (zq_ns h + zq_ks (t, n.toNatClampNeg) - zq_ns h)) Q (F0 m (pc + 3) ls (.ref (zq_adr sz ad (64 + h.1.length)) :: r.map (zq_tr sz ad))) := k1
            rw [zq_adr_new, hks, show zq_ns h + n.toNatClampNeg - zq_ns h = n.toNatClampNeg by omega] at k2
            exact k2
          have hzR : (fun k => ((zq_z0 h.2 (64 + h.1.length)).2.2 (64 + h.1.length) k).map (zq_adr sz ad)) = fun _ => none := funext fun b => by
            have : (zq_z0 h.2 (64 + h.1.length)).2.2 (64 + h.1.length) b = none := if_pos rfl
            rw [this]
            rfl
          split at hg
          next h4 =>
            dsimp only at h4
            subst h4
            cases hg
            dsimp only at kk hrc hrs
            rw [zq_len_mk] at kk hrc
            rw [zq_ns_mk] at kk hrs
            rw [e1] at kk hrc
            have hsl : slots + n.toNatClampNeg ≤ R.slots := by
              have hks : zq_ks (5, n.toNatClampNeg) = n.toNatClampNeg := rfl
              rw [hks] at hrs
              omega
            refine va_newq (D := (dC, dI)) (C := "RaffleArmy$State") hx hb hown (hts _ (zq_in hcl)) hAO1 hK hP (zq_D cA sz ad h) hS hA hn0 rfl (by omega) hrc hsl (zq_dl hd hn rfl) ?_
            exact fin 5 _ 4 rfl t5 (by show Sum.inl (cA 5, n.toNatClampNeg, Sum.inr (Sum.inr (Sum.inr (Sum.inr (fun k => ((zq_z0 h.2 (64 + h.1.length)).2.2 (64 + h.1.length) k).map (zq_adr sz ad)))))) = _; rw [hzR]) kk
          next =>
            split at hg
            next h2 =>
              dsimp only at h2
              subst h2
              cases hg
              dsimp only at kk hrc hrs
              rw [zq_len_mk] at kk hrc
              rw [zq_ns_mk] at kk hrs
              rw [e1] at kk hrc
              have hsl : slots + n.toNatClampNeg ≤ R.slots := by
                have hks : zq_ks (6, n.toNatClampNeg) = n.toNatClampNeg := rfl
                rw [hks] at hrs
                omega
              refine va_newq (D := (dC, dI)) (C := "RaffleArmy$Notes") hx hb hown (hts _ (zq_in hcl)) hAO2 hK hP (zq_D cA sz ad h) hS hA hn0 rfl (by omega) hrc hsl (zq_dl hd hn rfl) ?_
              exact fin 6 _ 5 rfl t6 (by show Sum.inl (cA 6, n.toNatClampNeg, Sum.inr (Sum.inr (Sum.inr (Sum.inr (fun k => ((zq_z0 h.2 (64 + h.1.length)).2.2 (64 + h.1.length) k).map (zq_adr sz ad)))))) = _; rw [hzR]) kk
            next => cases hg
      next => cases hg
    next => cases hg
  · cases hg
theorem zq_ga_ok {d : Nat} (cx : zq_cx dC dI cA sz ad sc p s m args meth c cc nL o ini) (hd : decode cc pc = .ok (ins, len)) (hn : zq_lnk ins len = true) (hg : zq_ga d o ins pc lv st h = some c') (hl : zq_lr sz ad ls nL lv) (hRf : R.frames = d) (hRl : R.locals = 40 * d) (hc : cells ≤ R.cells) (hs : slots ≤ R.slots)
    (kk : c'.2.1 = lv → c'.2.2.2 = h → W p l e R s m args below meth c H locs cells slots Q (F0 m c'.1 ls (c'.2.2.1.map (zq_tr sz ad)))) : W p l e R s m args below meth c H locs cells slots Q (F0 m pc ls (st.map (zq_tr sz ad))) := by
  obtain ⟨hx, hb, hml, hown, hts, henv, hin, ho⟩ := cx
  obtain ⟨c1, c2, c3, c4, c5, c6, c7⟩ := zq_mathc
  have hsz : c.maxLocals = ls.size := by rw [hml]; exact hl.1.1.symm
  unfold zq_ga at hg
  split at hg
  · cases hg
  next hd0 =>
  have hR1 : 1 ≤ R.frames := by rw [hRf]; omega
  split at hg
  · rename_i idx
    split at hg
    next e1 he =>
      obtain ⟨k, pz, nst⟩ := e1
      have hpk := zq_ppk o ho _ (zq_lk he)
      dsimp only at hg hpk
      split at hg
      next h1000 =>
        subst h1000
        split at hg
        next y x r =>
          split at hg
          next hcat =>
            cases hg
            have hlink : zq_has pz (.methodLink (zq_R o) idx Lib.Math.max.name) = true := by
              split at hpk
              · exact hpk
              · simp at hpk
            exact va_mmax hx hb hsz hown (hts _ (zq_in hlink)) (hts _ (zq_in c3)) (hts _ (zq_in c5)) (hts _ (zq_in c1)) hR1 (by rw [zq_cat_tr, hRl]; omega) hc hs (zq_dl hd hn rfl) (kk rfl rfl)
          next => cases hg
        next => cases hg
      next =>
        split at hg
        next h1001 =>
          subst h1001
          split at hg
          next y x r =>
            split at hg
            next hcat =>
              cases hg
              have hlink : zq_has pz (.methodLink (zq_R o) idx Lib.Math.min.name) = true := by
                split at hpk
                · exact hpk
                · simp at hpk
              exact va_mmin hx hb hsz hown (hts _ (zq_in hlink)) (hts _ (zq_in c4)) (hts _ (zq_in c5)) (hts _ (zq_in c2)) hR1 (by rw [zq_cat_tr, hRl]; omega) hc hs (zq_dl hd hn rfl) (kk rfl rfl)
            next => cases hg
          next => cases hg
        next => cases hg
    next => cases hg
  · rename_i idx
    split at hg
    next e1 he =>
      obtain ⟨k, pz, nst⟩ := e1
      have hpk := zq_ppk o ho _ (zq_lk he)
      dsimp only at hg hpk
      split at hg
      next h1002 =>
        subst h1002
        split at hg
        next a r =>
          split at hg
          next hcat =>
            cases hg
            have hlink : zq_has pz (.methodLink (zq_R o) idx Lib.objectInit) = true := by
              split at hpk
              · exact hpk
              · simp at hpk
            refine W.objInit hx hb hown (hts _ (zq_in hlink)) (hts _ (zq_in c7)) (hts _ (zq_in c6)) rfl hsz.symm rfl (zq_dl hd hn rfl) hR1 ?_ (kk rfl rfl)
            have hcr : ((r.map (zq_tr sz ad)).map fun v => v.category).sum ≤ 8 := by rw [zq_cat_tr]; exact hcat
            have := lv_room (m := m) (pc := pc) (ls := ls) (rest := (Value.ref a :: r).map (zq_tr sz ad)) (st := r.map (zq_tr sz ad)) hcr
            rw [hRl]
            show _ + 12 ≤ _
            omega
          next => cases hg
        next => cases hg
      next => cases hg
    next => cases hg
  · cases hg
end ZG
end
section
/-! a run of the small machine is a run of the machine -/
theorem zq_g1_h {o pc : Nat} {ins : Instr} {lv : List (Option Value)} {st : List Value} {h : zH} {c' : zC} (hg : zq_g1 o ins pc lv st h = some c') : c'.2.2.2 = h := by
  unfold zq_g1 at hg
  repeat' split at hg
  all_goals first | (cases hg; rfl) | cases hg
theorem zq_g2_h {pc : Nat} {ins : Instr} {lv : List (Option Value)} {st : List Value} {h : zH} {c' : zC} (hg : zq_g2 ins pc lv st h = some c') : c'.2.2.2 = h := by
  unfold zq_g2 at hg
  repeat' split at hg
  all_goals first | (cases hg; rfl) | (obtain ⟨_, _, rfl⟩ := Option.map_eq_some_iff.mp hg; rfl) | cases hg
theorem zq_g3_h {pc : Nat} {ins : Instr} {lv : List (Option Value)} {st : List Value} {h : zH} {c' : zC} (hg : zq_g3 ins pc lv st h = some c') : c'.2.2.2 = h := by
  unfold zq_g3 at hg
  repeat' split at hg
  all_goals first | (cases hg; rfl) | cases hg
theorem zq_g4_h {pc : Nat} {ins : Instr} {lv : List (Option Value)} {st : List Value} {h : zH} {c' : zC} (hg : zq_g4 ins pc lv st h = some c') : c'.2.2.2 = h := by
  unfold zq_g4 at hg
  repeat' split at hg
  all_goals first | (cases hg; rfl) | cases hg
theorem zq_g5_h {pc : Nat} {ins : Instr} {lv : List (Option Value)} {st : List Value} {h : zH} {c' : zC} (hg : zq_g5 ins pc lv st h = some c') : c'.2.2.2 = h := by
  unfold zq_g5 at hg
  repeat' split at hg
  all_goals first | (cases hg; rfl) | (obtain ⟨_, _, rfl⟩ := Option.map_eq_some_iff.mp hg; rfl) | cases hg
theorem zq_g6_h {pc : Nat} {ins : Instr} {lv : List (Option Value)} {st : List Value} {h : zH} {c' : zC} (hg : zq_g6 ins pc lv st h = some c') : c'.2.2.2 = h := by
  unfold zq_g6 at hg
  repeat' split at hg
  all_goals first | (cases hg; rfl) | (obtain ⟨_, _, rfl⟩ := Option.map_eq_some_iff.mp hg; rfl) | cases hg
theorem zq_pf_h {h h' : zH} {ci o k : Nat} {v : Value} (hv : zq_pf h ci o k v = some h') : h'.1 = h.1 := by
  unfold zq_pf at hv
  repeat' split at hv
  all_goals first | (cases hv; rfl) | cases hv
theorem zq_g7_h {o pc : Nat} {ini : Bool} {ins : Instr} {lv : List (Option Value)} {st : List Value} {h : zH} {c' : zC} (hg : zq_g7 o ini ins pc lv st h = some c') : c'.2.2.2.1 = h.1 := by
  unfold zq_g7 at hg
  repeat' split at hg
  all_goals first | (cases hg; rfl) | (obtain ⟨_, hv, rfl⟩ := Option.map_eq_some_iff.mp hg; first | exact zq_pf_h hv | rfl) | cases hg
theorem zq_g8_h {sc : zX} {pc : Nat} {ins : Instr} {lv : List (Option Value)} {st : List Value} {h : zH} {c' : zC} (hg : zq_g8 sc ins pc lv st h = some c') : c'.2.2.2.1 = h.1 := by
  have hX : ∀ {t a : Nat} {i x : Int32} {h' : zH}, zq_wrX t h a i x = some h' → h'.1 = h.1 := by
    intro t a i x h' hv
    unfold zq_wrX at hv
    repeat' split at hv
    all_goals first | (cases hv; rfl) | cases hv
  have hL : ∀ {a : Nat} {i : Int32} {x : Int64} {h' : zH}, zq_wrL h a i x = some h' → h'.1 = h.1 := by
    intro a i x h' hv
    unfold zq_wrL at hv
    repeat' split at hv
    all_goals first | (cases hv; rfl) | cases hv
  have hR : ∀ {a : Nat} {i : Int32} {x : Nat} {h' : zH}, zq_wrR h a i x = some h' → h'.1 = h.1 := by
    intro a i x h' hv
    unfold zq_wrR at hv
    repeat' split at hv
    all_goals first | (cases hv; rfl) | cases hv
  unfold zq_g8 at hg
  repeat' split at hg
  all_goals first | (cases hg; rfl) | (obtain ⟨_, hv, rfl⟩ := Option.map_eq_some_iff.mp hg; first | exact hX hv | exact hL hv | exact hR hv | rfl) | cases hg
theorem zq_g9_h {al : Bool} {o pc : Nat} {ins : Instr} {lv : List (Option Value)} {st : List Value} {h : zH} {c' : zC} (hg : zq_g9 al o ins pc lv st h = some c') : ∃ kd, c'.2.2.2 = zq_mk h kd := by
  unfold zq_g9 at hg
  repeat' split at hg
  all_goals first | (cases hg; exact ⟨_, rfl⟩) | cases hg
theorem zq_ga_h {d o pc : Nat} {ins : Instr} {lv : List (Option Value)} {st : List Value} {h : zH} {c' : zC} (hg : zq_ga d o ins pc lv st h = some c') : c'.2.2.2 = h := by
  unfold zq_ga at hg
  repeat' split at hg
  all_goals first | (cases hg; rfl) | cases hg
def zq_le (h h' : zH) : Prop := h.1.length ≤ h'.1.length ∧ zq_ns h ≤ zq_ns h'
theorem zq_le_of_eq {h h' : zH} (e : h'.1 = h.1) : zq_le h h' := by
  unfold zq_le zq_ns
  rw [e]
  exact ⟨Nat.le_refl _, Nat.le_refl _⟩
theorem zq_stp_h {sc : zX} {al : Bool} {d o pc : Nat} {ini : Bool} {ins : Instr} {lv : List (Option Value)} {st : List Value} {h : zH} {c' : zC} (hg : zq_stp sc al d o ini ins pc lv st h = some c') : zq_le h c'.2.2.2 := by
  unfold zq_stp at hg
  split at hg
  all_goals first
    | exact zq_le_of_eq (congrArg Prod.fst (zq_g1_h hg))
    | exact zq_le_of_eq (congrArg Prod.fst (zq_g2_h hg))
    | exact zq_le_of_eq (congrArg Prod.fst (zq_g3_h hg))
    | exact zq_le_of_eq (congrArg Prod.fst (zq_g4_h hg))
    | exact zq_le_of_eq (congrArg Prod.fst (zq_g5_h hg))
    | exact zq_le_of_eq (congrArg Prod.fst (zq_g6_h hg))
    | exact zq_le_of_eq (zq_g7_h hg)
    | exact zq_le_of_eq (zq_g8_h hg)
    | exact zq_le_of_eq (congrArg Prod.fst (zq_ga_h hg))
    | (obtain ⟨kd, hk⟩ := zq_g9_h hg; rw [hk]; exact ⟨by rw [zq_len_mk]; omega, by rw [zq_ns_mk]; omega⟩)
    | cases hg
theorem zq_run_h {sc : zX} {al : Bool} : ∀ (n d k pc : Nat) (lv : List (Option Value)) (st : List Value) (h : zH) (v : Option Value) (hF : zH), zq_run sc al n d k pc lv st h = some (v, hF) → zq_le h hF := by
  intro n
  induction n with
  | zero => intro d k pc lv st h v hF hr; cases hr
  | succ n ih =>
    intro d k pc lv st h v hF hr
    unfold zq_run at hr
    split at hr
    · cases hr
    · split at hr
      next c hc =>
        have h1 := zq_stp_h hc
        have h2 := ih _ _ _ _ _ _ _ _ hr
        exact ⟨Nat.le_trans h1.1 h2.1, Nat.le_trans h1.2 h2.2⟩
      next =>
        split at hr
        · cases hr; exact ⟨Nat.le_refl _, Nat.le_refl _⟩
        · split at hr
          · cases hr
          · split at hr
            · cases hr
            · split at hr
              · cases hr
              next v1 h1 hr1 =>
                have e1 := ih _ _ _ _ _ _ _ _ hr1
                have e2 := ih _ _ _ _ _ _ _ _ hr
                exact ⟨Nat.le_trans e1.1 e2.1, Nat.le_trans e1.2 e2.2⟩
section ZG
variable {dC : Nat → ClassId} {dI : Nat → Nat → Nat} {cA : Nat → ClassId} {sz : Nat} {ad : Nat → Nat} {sc : zX}
variable {p : Program} {l : Launch} {e : Env} {R : Room} {s : State} {m : MethodId} {args : Array Value} {below : List Frame} {meth : Method} {c : Code} {H : Heap} {locs : List Loc} {cells slots : Nat} {Q : State → Prop}
variable {cc : ByteArray} {ls : Array Slot} {nL pc o len : Nat} {ini : Bool} {ins : Instr} {lv : List (Option Value)} {st : List Value} {h : zH} {c' : zC}
theorem zq_stp_ok {al : Bool} {d : Nat} (cx : zq_cx dC dI cA sz ad sc p s m args meth c cc nL o ini) (hd : decode cc pc = .ok (ins, len)) (hn : zq_lnk ins len = true) (hg : zq_stp sc al d o ini ins pc lv st h = some c') (hl : zq_lr sz ad ls nL lv) (hP : va_P (dC, dI) zq_cl (zq_ws cA sz ad h) H) (hS : va_S (fun q => sz ≤ q) s.heap H locs)
    (hRf : R.frames = d) (hRl : R.locals = 40 * d) (hacc : al = true → s.heap.size + cells = sz + h.1.length) (hrc : cells + (c'.2.2.2.1.length - h.1.length) ≤ R.cells) (hrs : slots + (zq_ns c'.2.2.2 - zq_ns h) ≤ R.slots)
    (kk : ∀ H' locs' ls', zq_lr sz ad ls' nL c'.2.1 → va_P (dC, dI) zq_cl (zq_ws cA sz ad c'.2.2.2) H' → va_S (fun q => sz ≤ q) s.heap H' locs' → W p l e R s m args below meth c H' locs' (cells + (c'.2.2.2.1.length - h.1.length)) (slots + (zq_ns c'.2.2.2 - zq_ns h)) Q (F0 m c'.1 ls' (c'.2.2.1.map (zq_tr sz ad)))) : W p l e R s m args below meth c H locs cells slots Q (F0 m pc ls (st.map (zq_tr sz ad))) := by
  have same : c'.2.1 = lv → c'.2.2.2 = h → W p l e R s m args below meth c H locs cells slots Q (F0 m c'.1 ls (c'.2.2.1.map (zq_tr sz ad))) := by
    intro e1 e2
    have k1 := kk H locs ls (by rw [e1]; exact hl) (by rw [e2]; exact hP) hS
    rw [e2, Nat.sub_self, Nat.sub_self] at k1
    exact k1
  have sameF : ∀ H' locs', c'.2.1 = lv → c'.2.2.2.1 = h.1 → va_P (dC, dI) zq_cl (zq_ws cA sz ad c'.2.2.2) H' → va_S (fun q => sz ≤ q) s.heap H' locs' → W p l e R s m args below meth c H' locs' cells slots Q (F0 m c'.1 ls (c'.2.2.1.map (zq_tr sz ad))) := by
    intro H' locs' e1 e2 hP' hS'
    have k1 := kk H' locs' ls (by rw [e1]; exact hl) hP' hS'
    have e3 : zq_ns c'.2.2.2 = zq_ns h := by unfold zq_ns; rw [e2]
    rw [e3, e2, Nat.sub_self, Nat.sub_self] at k1
    exact k1
  have sameL : ∀ ls', zq_lr sz ad ls' nL c'.2.1 → c'.2.2.2 = h → W p l e R s m args below meth c H locs cells slots Q (F0 m c'.1 ls' (c'.2.2.1.map (zq_tr sz ad))) := by
    intro ls' e1 e2
    have k1 := kk H locs ls' e1 (by rw [e2]; exact hP) hS
    rw [e2, Nat.sub_self, Nat.sub_self] at k1
    exact k1
  have new9 : ∀ H' locs', c'.2.1 = lv → va_P (dC, dI) zq_cl (zq_ws cA sz ad c'.2.2.2) H' → va_S (fun q => sz ≤ q) s.heap H' locs' → W p l e R s m args below meth c H' locs' (cells + (c'.2.2.2.1.length - h.1.length)) (slots + (zq_ns c'.2.2.2 - zq_ns h)) Q (F0 m c'.1 ls (c'.2.2.1.map (zq_tr sz ad))) := by
    intro H' locs' e1 hP' hS'
    exact kk H' locs' ls (by rw [e1]; exact hl) hP' hS'
  unfold zq_stp at hg
  split at hg
  all_goals first
    | exact zq_g1_ok cx hd hn hg hl same
    | exact zq_g2_ok cx hd hn hg hl sameL
    | exact zq_g3_ok cx hd hn hg same
    | exact zq_g4_ok cx hd hn hg same
    | exact zq_g5_ok cx hd hn hg same
    | exact zq_g6_ok cx hd hn hg same
    | exact zq_g7_ok cx hd hn hg hP hS sameF
    | exact zq_g8_ok cx hd hn hg hP hS sameF
    | exact zq_g9_ok cx hd hn hg hP hS hacc hrc hrs new9
    | exact zq_ga_ok cx hd hn hg hl hRf hRl (by omega) (by omega) same
    | cases hg
end ZG
theorem zq_mfacts {q : zq_I} {pz : Nat × Nat × Nat} (h : zq_mchk q pz = true) : plainName q.1.cls = true ∧ (q.1.cls ≠ "java/lang/invoke/MethodHandle" ∧ q.1.cls ≠ "java/lang/invoke/VarHandle") ∧ q.1.cls = zq_R q.2.2.2.2.1 ∧ Cond.initialized q.1.cls ∈ zq_WG ∧ (parseMethodDescriptor q.1.desc).map (fun d => d.parameters.length) = some (q.2.2.2.2.2.1 - (if q.2.2.2.2.2.2 = 0 then 0 else 1)) ∧ (q.2.2.2.2.2.2 = 0 → Cond.static q.1 ∈ zq_WG) ∧ (q.2.2.2.2.2.2 ≠ 0 → Cond.instanceMethod q.1 ∈ zq_WG) ∧ (q.2.2.2.2.2.2 = 1 → Cond.selects q.1.cls q.1 q.1 ∈ zq_WG) ∧ (q.2.2.2.2.2.2 = 2 → q.1.name = "<init>" ∧ q.2.2.2.1 = none) ∧ q.2.2.1 ≤ 21 ∧ (q.2.2.2.2.2.2 ≠ 0 → 1 ≤ q.2.2.2.2.2.1) := by
  unfold zq_mchk at h
  simp only [Bool.and_eq_true, decide_eq_true_eq] at h
  obtain ⟨⟨⟨⟨⟨⟨⟨⟨⟨h1, h2⟩, h3⟩, h4⟩, h5⟩, h6⟩, h7⟩, h8⟩, h9⟩, h10⟩ := h
  refine ⟨h1, h2, h3, zq_in h4, h5, fun hk => ?_, fun hk => ?_, fun hk => ?_, h8, h9, h10⟩
  · rw [if_pos hk] at h6; exact zq_in h6
  · rw [if_neg hk] at h6; exact zq_in h6
  · rw [if_pos hk] at h7; exact zq_in h7
theorem zq_own14 : ∀ q ∈ zq_MT, q.2.2.2.2.1 < 14 ∧ (q.2.2.2.2.2.2 ≠ 0 → q.2.2.2.2.1 < 11) := by
  have h : zq_MT.all (fun q => decide (q.2.2.2.2.1 < 14 ∧ (q.2.2.2.2.2.2 ≠ 0 → q.2.2.2.2.1 < 11))) = true := by decide +kernel
  intro q hq
  exact of_decide_eq_true (List.all_eq_true.mp h q hq)
def zq_Qc (dC : Nat → ClassId) (dI : Nat → Nat → Nat) (cA : Nat → ClassId) (sz : Nat) (ad : Nat → Nat) (v : Option Value) (hF : zH) : Array Value → State → Outcome → State → Prop := fun _ st oc t => oc = .returned (v.map (zq_tr sz ad)) ∧ va_P (dC, dI) zq_cl (zq_ws cA sz ad hF) t.heap ∧ va_F (fun q => sz ≤ q) st t
def zq_Pc (dC : Nat → ClassId) (dI : Nat → Nat → Nat) (cA : Nat → ClassId) (sz : Nat) (ad : Nat → Nat) (sc : zX) (al : Bool) (as : List Value) (h : zH) : Array Value → State → Prop := va_Pc (as.map (zq_tr sz ad)) (fun U => zq_env dC dI cA sz ad sc U U.heap ∧ va_P (dC, dI) zq_cl (zq_ws cA sz ad h) U.heap ∧ (al = true → U.heap.size = sz + h.1.length))
def zq_rm (d : Nat) (h hF : zH) : Room := { frames := d, cells := hF.1.length - h.1.length, slots := zq_ns hF - zq_ns h, locals := 40 * d }
def zq_MtP (dC : Nat → ClassId) (dI : Nat → Nat → Nat) (cA : Nat → ClassId) (sz : Nat) (ad : Nat → Nat) (sc : zX) (al : Bool) (l : Launch) (n : Nat) : Prop := ∀ (d k : Nat) (q : zq_I) (as : List Value) (h : zH) (v : Option Value) (hF : zH), zq_MT[k]? = some q → (zq_sls as).length ≤ q.2.2.1 → zq_run sc al n d k 0 (zq_ent q.2.2.1 as) [] h = some (v, hF) →
  Met l q.1 (zq_cw q :: zq_WG) (zq_rm d h hF) (zq_Pc dC dI cA sz ad sc al as h) (zq_Qc dC dI cA sz ad v hF) (hF.1.length - h.1.length) (zq_ns hF - zq_ns h) (fun q => sz ≤ q)
theorem zq_good {q : zq_I} (hq : zq_cw q ∈ zq_WG) : GoodIn zq_WG (zq_cw q :: zq_WG) := by
  have key : ∀ w ∈ zq_WG, w ∈ zq_WG ∧ ((w.onTables && w.keeps) = true ∨ ∃ ty, w = .arrayClass ty) := fun w hw => ⟨hw, good_of_word (List.mem_filter.mp hw).2⟩
  intro w hw
  rcases List.mem_cons.mp hw with rfl | h
  · exact key _ hq
  · exact key _ h
end
section
/-! calls, ends, and the theorem: what the small machine runs, the machine runs -/
def zq_BdP (dC : Nat → ClassId) (dI : Nat → Nat → Nat) (cA : Nat → ClassId) (sz : Nat) (ad : Nat → Nat) (sc : zX) (al : Bool) (l : Launch) (n : Nat) : Prop := ∀ (d k : Nat) (q : zq_I) (pc : Nat) (lv : List (Option Value)) (st : List Value) (h : zH) (v : Option Value) (hF h0 : zH) (p : Program) (e : Env) (s : State) (m : MethodId) (args : Array Value) (below : List Frame) (meth : Method) (c : Code) (H : Heap) (locs : List Loc) (cells slots : Nat) (ls : Array Slot),
  zq_MT[k]? = some q → zq_run sc al n d k pc lv st h = some (v, hF) → zq_cx dC dI cA sz ad sc p s m args meth c q.2.1 q.2.2.1 q.2.2.2.2.1 (zq_ini k) → meth.sig.returnType = q.2.2.2.1 → meth.locks = false → zq_lr sz ad ls q.2.2.1 lv → va_P (dC, dI) zq_cl (zq_ws cA sz ad h) H → va_S (fun q => sz ≤ q) s.heap H locs → (al = true → s.heap.size = sz + h0.1.length) → zq_le h0 h → cells = h.1.length - h0.1.length → slots = zq_ns h - zq_ns h0 →
  W p l e (zq_rm d h0 hF) s m args below meth c H locs cells slots (MQ below (zq_Qc dC dI cA sz ad v hF) args s (hF.1.length - h0.1.length) (zq_ns hF - zq_ns h0) (fun q => sz ≤ q)) (F0 m pc ls (st.map (zq_tr sz ad)))
theorem zq_getD {k : Nat} {q : zq_I} (hq : zq_MT[k]? = some q) : zq_MT.getD k zq_m0 = q := by
  rw [List.getD_eq_getElem?_getD, hq]
  rfl
theorem zq_ownk {k : Nat} {q : zq_I} (hq : zq_MT[k]? = some q) : zq_own k = q.2.2.2.2.1 ∧ zq_maxL k = q.2.2.1 ∧ zq_rt k = q.2.2.2.1 ∧ (zq_ini k = true ↔ q.2.2.2.2.2.2 = 2) := by
  have hk : k < 265 := by rw [← zq_MTlen]; exact (List.getElem?_eq_some_iff.mp hq).1
  unfold zq_own zq_maxL zq_rt zq_ini
  rw [zq_getD hq, if_neg (by omega), if_neg (by omega)]
  exact ⟨rfl, rfl, rfl, decide_eq_true_iff⟩
/-- a method's body gives its contract -/
theorem zq_mt_of {dC : Nat → ClassId} {dI : Nat → Nat → Nat} {cA : Nat → ClassId} {sz : Nat} {ad : Nat → Nat} {sc : zX} {al : Bool} {l : Launch} {n : Nat} (hB : zq_BdP dC dI cA sz ad sc al l n) : zq_MtP dC dI cA sz ad sc al l n := by
  intro d k q as h v hF hq hlen hr
  obtain ⟨hcw, pz, hm⟩ := zq_mok hq
  obtain ⟨f1, f2, f3, f4, f5, f6, f7, f8, f9, f10, f11⟩ := zq_mfacts hm
  obtain ⟨k1, k2, k3, k4⟩ := zq_ownk hq
  refine Met.ofW (cc := q.2.1) (maxL := q.2.2.1) (ret := q.2.2.2.1) (ws' := zq_WG) f1 rfl ?_
  intro p e s m args below meth c s₁ B hml hv
  obtain ⟨rfl, henv, hP, hsz⟩ := hv
  have hts := atoms_spec (ws := zq_cw q :: zq_WG) B.pre
  have hown : s.vm.findClass q.1.cls = some m.cls := findClass_of_methodNamed B.named
  have hname : meth.name = q.1.name := (name_of_methodNamed B.named B.method).1
  rw [lg_entry_eq]
  obtain ⟨-, hl⟩ := zq_lr_ent sz ad as q.2.2.1 hlen
  refine hB d k q 0 _ [] h v hF h p e s m _ below meth c s.heap [] 0 0 _ hq hr ⟨B.exec, B.bytes, hml, by rw [← f3]; exact hown, fun w hw => hts w (List.mem_cons_of_mem _ hw), henv, fun hi => by rw [hname]; exact (f9 (k4.mp hi)).1, (zq_own14 q (List.mem_of_getElem? hq)).1⟩ B.returns B.notSynchronized hl hP va_S.rf hsz ⟨Nat.le_refl _, Nat.le_refl _⟩ (Nat.sub_self _).symm (Nat.sub_self _).symm
section ZG
variable {dC : Nat → ClassId} {dI : Nat → Nat → Nat} {cA : Nat → ClassId} {sz : Nat} {ad : Nat → Nat} {sc : zX}
variable {p : Program} {l : Launch} {e : Env} {R : Room} {s : State} {m : MethodId} {args : Array Value} {below : List Frame} {meth : Method} {c : Code} {H : Heap} {locs : List Loc} {cells slots : Nat} {Q : State → Prop}
variable {cc : ByteArray} {ls : Array Slot} {nL pc o len : Nat} {ini : Bool} {ins : Instr} {lv : List (Option Value)} {st : List Value} {h : zH} {c' : zC}
/-- behind a call -/
theorem zq_call {v : Option Value} {h1 : zH} {mc ms : Nat} {st0 rest : List Value} {a : Array Value} (hr : va_Run p l e R s m args below meth c H locs cells slots mc ms (F0 m pc ls st0) rest (zq_Qc dC dI cA sz ad v h1 a) (fun q => sz ≤ q)) (hS : va_S (fun q => sz ≤ q) s.heap H locs)
    (kk : ∀ H1 locs1, va_P (dC, dI) zq_cl (zq_ws cA sz ad h1) H1 → va_S (fun q => sz ≤ q) s.heap H1 locs1 → W p l e R s m args below meth c H1 locs1 (cells + mc) (slots + ms) Q (F0 m (pc + 3) ls ((v.map (zq_tr sz ad)).toList ++ rest))) : W p l e R s m args below meth c H locs cells slots Q (F0 m pc ls st0) := by
  intro T hT X
  obtain ⟨v', st₀, t, T', L, h0, X', hL, e1, e2, ⟨hv, hp, hz, hk⟩, stp⟩ := hr T hT X
  cases hv
  rw [h0] at hz hk
  obtain ⟨t2, a1, b1⟩ := kk T'.heap (locs ++ L) (by rw [e1]; exact hp)
    ⟨Nat.le_trans hS.1 (by rw [e1]; exact hz), fun q g1 g2 => by rw [e1, hk q (Nat.lt_of_lt_of_le g1 hS.1) g2]; exact hS.2.1 q g1 g2, fun q hq => by
      rcases List.mem_append.mp hq with g | g
      · exact hS.2.2 q g
      · exact hL q g⟩ T' rfl X'
  exact ⟨t2, stp t2 a1, b1⟩
theorem zq_low (hP : va_P (dC, dI) zq_cl (zq_ws cA sz ad h) H) (hs : sz ≤ H.size) : sz + h.1.length ≤ H.size := by
  by_cases h0 : h.1.length = 0
  · omega
  · have h1 : h.1.length - 1 < h.1.length := by omega
    have h2 := (hP _ _ (zq_ws_get (List.getElem?_eq_getElem h1))).lt
    have h3 : sz + (h.1.length - 1) < H.size := h2
    omega
theorem zq_split {n : Nat} {x : Value} (hn : 1 ≤ n) (hx : st[n - 1]? = some x) : st = st.take (n - 1) ++ x :: st.drop n ∧ (st.take n).reverse = x :: (st.take (n - 1)).reverse := by
  obtain ⟨hlt, hx2⟩ := List.getElem?_eq_some_iff.mp hx
  have e1 : st.drop (n - 1) = x :: st.drop n := by
    rw [List.drop_eq_getElem_cons hlt, hx2]
    congr 2
    omega
  have e2 : st.take n = st.take (n - 1) ++ [x] := by
    have h3 := List.take_add_one (l := st) (i := n - 1)
    rw [show n - 1 + 1 = n by omega, hx] at h3
    exact h3
  constructor
  · rw [← e1]
    exact (List.take_append_drop (n - 1) st).symm
  · rw [e2]
    simp
theorem zq_body {al : Bool} (n : Nat) : zq_BdP dC dI cA sz ad sc al l n := by
  induction n with
  | zero =>
    intro d k q pc lv st h v hF h0 p e s m args below meth c H locs cells slots ls hq hr
    cases hr
  | succ n ih =>
    intro d k q pc lv st h v hF h0 p e s m args below meth c H locs cells slots ls hq hr cx hret hlocks hl hP hS hsz hle hcells hslots
    have hmono := zq_run_h _ _ _ _ _ _ _ _ _ hr
    obtain ⟨k1, k2, k3, k4⟩ := zq_ownk hq
    unfold zq_run at hr
    split at hr
    · cases hr
    next ins len hcode =>
    obtain ⟨hd, hn⟩ := zq_dec hq hcode
    dsimp only at hn
    rw [k1, k3] at hr
    split at hr
    next c' hc =>
      have h1 := zq_stp_h hc
      have h2 := zq_run_h _ _ _ _ _ _ _ _ _ hr
      refine zq_stp_ok (al := al) (d := d) cx hd hn hc hl hP hS rfl rfl (fun ha => by rw [hsz ha, hcells]; have := hle.1; omega) ?_ ?_ (fun H' locs' ls' hl' hP' hS' => ?_)
      · show cells + _ ≤ hF.1.length - h0.1.length
        have := hle.1; have := h1.1; have := h2.1
        omega
      · show slots + _ ≤ zq_ns hF - zq_ns h0
        have := hle.2; have := h1.2; have := h2.2
        omega
      · exact ih d k q _ _ _ _ v hF h0 p e s m args below meth c H' locs' _ _ ls' hq hr cx hret hlocks hl' hP' hS' hsz ⟨Nat.le_trans hle.1 h1.1, Nat.le_trans hle.2 h1.2⟩ (by have := hle.1; have := h1.1; omega) (by have := hle.2; have := h1.2; omega)
    next hnone =>
      obtain ⟨hx, hb, hml, hown, hts, henv, hin, ho⟩ := id cx
      split at hr
      next v0 hv0 =>
        have hr' : v0 = v ∧ h = hF := by cases hr; exact ⟨rfl, rfl⟩
        obtain ⟨ev, eh⟩ := hr'
        subst ev
        subst eh
        rw [← hcells, ← hslots]
        have hq : ∀ t : State, t.heap = H → s.WarmedH t.vm → zq_Qc dC dI cA sz ad v0 h args s (.returned (v0.map (zq_tr sz ad))) t := fun t ht _ => ⟨rfl, by rw [ht]; exact hP, hS.F ht⟩
        unfold zq_ret at hv0
        split at hv0
        next ty x hrt =>
          split at hv0
          next hfit =>
            cases hv0
            exact W.zret hx hb (hret.trans (by first | assumption | rfl)) (zq_fit_ok hfit).1 hq hS.2.2 (zq_dl hd hn rfl) hlocks
          next => cases hv0
        next x hrt =>
          cases hv0
          exact W.lret hx hb (hret.trans (by first | assumption | rfl)) hq hS.2.2 (zq_dl hd hn rfl) hlocks
        next nm x hrt =>
          cases hv0
          exact W.aret hx hb (hret.trans (by first | assumption | rfl)) (Or.inl ⟨_, rfl⟩) (Or.inr ⟨_, rfl⟩) hq hS.2.2 (zq_dl hd hn rfl) hlocks
        next nm hrt =>
          cases hv0
          exact W.aret hx hb (hret.trans (by first | assumption | rfl)) (Or.inl ⟨_, rfl⟩) (Or.inl rfl) hq hS.2.2 (zq_dl hd hn rfl) hlocks
        next hrt =>
          cases hv0
          exact W.vret hx hb (hret.trans (by first | assumption | rfl)) hq hS.2.2 (zq_dl hd hn rfl) hlocks
        next => cases hv0
      next hnr =>
        split at hr
        · cases hr
        next k' as rest hcal =>
        split at hr
        · cases hr
        next d' =>
        split at hr
        · cases hr
        next v1 h1 hr1 =>
        have hm1 := zq_run_h _ _ _ _ _ _ _ _ _ hr1
        have hm2 := zq_run_h _ _ _ _ _ _ _ _ _ hr
        unfold zq_cal at hcal
        split at hcal
        · cases hcal
        next i kd hik =>
        split at hcal
        · cases hcal
        next e1 he =>
        split at hcal
        · cases hcal
        next q' hq' =>
        split at hcal
        next hcond =>
          obtain ⟨hkd, hlen, hcat, hsls, hrcv⟩ := hcond
          cases hcal
          have hmx : zq_maxL e1.1 = q'.2.2.1 := (zq_ownk hq').2.1
          rw [hmx] at hr1
          have hM : Met l q'.1 (zq_cw q' :: zq_WG) (zq_rm d' h h1) (zq_Pc dC dI cA sz ad sc al _ h) (zq_Qc dC dI cA sz ad v1 h1) (h1.1.length - h.1.length) (zq_ns h1 - zq_ns h) (fun q => sz ≤ q) := zq_mt_of ih d' e1.1 q' _ h v1 h1 hq' hsls hr1
          obtain ⟨hcw, pz, hm⟩ := zq_mok hq'
          obtain ⟨f1, f2, f3, f4, f5, f6, f7, f8, f9, f10, f11⟩ := zq_mfacts hm
          have hy : zq_spl e1.1 = q'.1 := by
            have hk' : e1.1 < 265 := by rw [← zq_MTlen]; exact (List.getElem?_eq_some_iff.mp hq').1
            unfold zq_spl zq_y
            rw [if_neg (by omega), if_neg (by omega), if_neg (by omega), if_neg (by omega), zq_getD hq']
          have hpk := zq_ppk _ ho _ (zq_lk he)
          dsimp only at hpk
          rw [hy] at hpk
          have hR : (zq_rm d' h h1).frames + 1 ≤ (zq_rm (d' + 1) h0 hF).frames ∧ 8 + (q'.2.2.1 + 11) + (zq_rm d' h h1).locals ≤ (zq_rm (d' + 1) h0 hF).locals := by
            refine ⟨Nat.le_refl _, ?_⟩
            show 8 + (q'.2.2.1 + 11) + 40 * d' ≤ 40 * (d' + 1)
            omega
          have hfc : cells + (h1.1.length - h.1.length) ≤ (zq_rm (d' + 1) h0 hF).cells ∧ slots + (zq_ns h1 - zq_ns h) ≤ (zq_rm (d' + 1) h0 hF).slots := by
            have := hle.1; have := hle.2; have := hm1.1; have := hm1.2; have := hm2.1; have := hm2.2
            refine ⟨?_, ?_⟩
            · show _ ≤ hF.1.length - h0.1.length
              omega
            · show _ ≤ zq_ns hF - zq_ns h0
              omega
          have hW : 2 * (F0 m pc ls (st.map (zq_tr sz ad))).monitorRoom + (((st.drop q'.2.2.2.2.2.1).map (zq_tr sz ad)).map fun v => v.category).sum ≤ 8 := lv_room (by rw [zq_cat_tr]; exact hcat)
          have fin : ∀ (a : Array Value), va_Run p l e (zq_rm (d' + 1) h0 hF) s m args below meth c H locs cells slots (h1.1.length - h.1.length) (zq_ns h1 - zq_ns h) (F0 m pc ls (st.map (zq_tr sz ad))) ((st.drop q'.2.2.2.2.2.1).map (zq_tr sz ad)) (zq_Qc dC dI cA sz ad v1 h1 a) (fun q => sz ≤ q) → W p l e (zq_rm (d' + 1) h0 hF) s m args below meth c H locs cells slots (MQ below (zq_Qc dC dI cA sz ad v hF) args s (hF.1.length - h0.1.length) (zq_ns hF - zq_ns h0) (fun q => sz ≤ q)) (F0 m pc ls (st.map (zq_tr sz ad))) := by
            intro a hrun
            refine zq_call hrun hS (fun H1 locs1 hP1 hS1 => ?_)
            have := hle.1; have := hle.2; have := hm1.1; have := hm1.2; have := hm2.1; have := hm2.2
            have k := ih (d' + 1) k q (pc + 3) lv (v1.toList ++ st.drop q'.2.2.2.2.2.1) h1 v hF h0 p e s m args below meth c H1 locs1 (cells + (h1.1.length - h.1.length)) (slots + (zq_ns h1 - zq_ns h)) ls hq hr cx hret hlocks hl hP1 hS1 hsz ⟨by omega, by omega⟩ (by omega) (by omega)
            have e9 : (v1.map (zq_tr sz ad)).toList ++ (st.drop q'.2.2.2.2.2.1).map (zq_tr sz ad) = (v1.toList ++ st.drop q'.2.2.2.2.2.1).map (zq_tr sz ad) := by cases v1 <;> simp
            rw [e9]
            exact k
          refine zq_sizeW (fun hz => ?_)
          have hHs : al = true → H.size = sz + h.1.length := by
            intro ha
            have g1 := hsz ha
            have g2 := zq_low hP (Nat.le_trans henv.2.2.2.2.2.2.2.2.2.2.2.2.2 hS.1)
            have g3 := hle.1
            omega
          have hblind : FrameBlind (zq_Pc dC dI cA sz ad sc al (st.take q'.2.2.2.2.2.1).reverse h) := fun a U g mk ⟨g1, g2, g3, g4⟩ => ⟨g1, g2.calling, g3, g4⟩
          have hpc : ∀ U : State, U.heap = H → s.WarmedH U.vm → zq_Pc dC dI cA sz ad sc al (st.take q'.2.2.2.2.2.1).reverse h ((st.take q'.2.2.2.2.2.1).reverse.map (zq_tr sz ad)).toArray U := by
            intro U hU hWm
            refine ⟨rfl, ?_, by rw [hU]; exact hP, fun ha => by rw [hU]; exact hHs ha⟩
            exact henv.moved hWm (by rw [hU]; exact hS.1) (fun a g1 g2 => by rw [hU]; exact hS.2.1 a g1 g2)
          have hB : (Cond.methodLink (zq_R q.2.2.2.2.1) i q'.1).before args s = true → CallB (zq_rm (d' + 1) h0 hF) s args (zq_R q.2.2.2.2.1) i q'.1 q'.2.1 q'.2.2.1 q'.2.2.2.1 (zq_cw q' :: zq_WG) (zq_rm d' h h1) (h1.1.length - h.1.length) (zq_ns h1 - zq_ns h) (q'.2.2.2.2.2.1 - (if q'.2.2.2.2.2.2 = 0 then 0 else 1)) := fun hlk => callB_of _ hts (zq_good hcw) rfl rfl rfl (hts _ f4) hlk ⟨f2.1, f2.2, f5⟩ hR
          have hBN : va_Nw (.methodLinkNest (zq_R q.2.2.2.2.1) i q'.1 "RaffleArmy") s → va_CN (zq_rm (d' + 1) h0 hF) s args (zq_R q.2.2.2.2.1) i q'.1 "RaffleArmy" q'.2.1 q'.2.2.1 q'.2.2.2.1 (zq_cw q' :: zq_WG) (zq_rm d' h h1) (h1.1.length - h.1.length) (zq_ns h1 - zq_ns h) (q'.2.2.2.2.2.1 - (if q'.2.2.2.2.2.2 = 0 then 0 else 1)) := fun hlk => va_cnB _ hts (zq_good hcw) rfl rfl rfl hlk (hts _ f4) ⟨f2.1, f2.2, f5⟩ hR
          have hlink : (e1.2.2 = 0 ∧ (Cond.methodLink (zq_R q.2.2.2.2.1) i q'.1).before args s = true) ∨ (e1.2.2 ≠ 0 ∧ va_Nw (.methodLinkNest (zq_R q.2.2.2.2.1) i q'.1 "RaffleArmy") s) := by
            by_cases h00 : e1.2.2 = 0
            · rw [if_pos h00] at hpk
              exact Or.inl ⟨h00, hts _ (zq_in hpk)⟩
            · refine Or.inr ⟨h00, ?_⟩
              have := henv.2.1 _ ho _ (zq_lk he) h00
              rw [hy] at this
              exact this
          have S : CallFix p m c q.2.1 q.2.2.1 s args zq_WG (zq_R q.2.2.2.2.1) := ⟨hx, hb, hml, hown, hts⟩
          split at hik
          · cases hik
            have h0k : q'.2.2.2.2.2.2 = 0 := hkd
            rw [h0k, if_pos rfl, Nat.sub_zero] at hB hBN
            have hnA : ((st.take q'.2.2.2.2.2.1).reverse.map (zq_tr sz ad)).length = q'.2.2.2.2.2.1 := by simp; omega
            have hstk : (F0 m pc ls (st.map (zq_tr sz ad))).stack = ((st.take q'.2.2.2.2.2.1).reverse.map (zq_tr sz ad)).reverse ++ (st.drop q'.2.2.2.2.2.1).map (zq_tr sz ad) := by
              show st.map (zq_tr sz ad) = _
              rw [← List.map_reverse, List.reverse_reverse, ← List.map_append, List.take_append_drop]
            rcases hlink with ⟨-, hlk⟩ | ⟨-, hlk⟩
            · exact fin _ (va_runS S hM ⟨hB hlk, hts _ (f6 h0k)⟩ ⟨hblind, hpc⟩ rfl hnA hl.1.1 hstk hW (zq_dl hd hn rfl) hfc)
            · exact fin _ (va_runSN S hM ⟨hBN hlk, hts _ (f6 h0k), trivial⟩ ⟨hblind, hpc⟩ rfl hnA hl.1.1 hstk hW (zq_dl hd hn rfl) hfc)
          · cases hik
            have h1k : q'.2.2.2.2.2.2 = 1 := hkd
            rw [h1k, if_neg (by decide)] at hB hBN
            have hpos := f11 (by rw [h1k]; decide)
            rcases hrcv with hbad | hrcv
            · cases hbad
            unfold zq_rcv at hrcv
            split at hrcv
            next a hsa =>
              have hkda := of_decide_eq_true hrcv
              obtain ⟨j, rfl, hj⟩ := zq_kd_at hkda
              obtain ⟨e2, e3⟩ := zq_split hpos hsa
              have e4 : (st.take q'.2.2.2.2.2.1).reverse.map (zq_tr sz ad) = .ref (sz + j) :: (st.take (q'.2.2.2.2.2.1 - 1)).reverse.map (zq_tr sz ad) := by
                rw [e3, List.map_cons, zq_ref_eq]
              rw [e4] at hpc
              have hci := (zq_own14 q' (List.mem_of_getElem? hq')).2 (by rw [h1k]; decide)
              have hrc := va_recv henv.1 hP (zq_cl_get hci) (zq_ws_get hj)
              dsimp only at hrc
              rw [← f3] at hrc
              have hnA : ((st.take (q'.2.2.2.2.2.1 - 1)).reverse.map (zq_tr sz ad)).length = q'.2.2.2.2.2.1 - 1 := by simp; omega
              have hstk : (F0 m pc ls (st.map (zq_tr sz ad))).stack = ((st.take (q'.2.2.2.2.2.1 - 1)).reverse.map (zq_tr sz ad)).reverse ++ .ref (sz + j) :: (st.drop q'.2.2.2.2.2.1).map (zq_tr sz ad) := by
                show st.map (zq_tr sz ad) = _
                rw [← List.map_reverse, List.reverse_reverse]
                conv => lhs; rw [e2]
                rw [List.map_append, List.map_cons, zq_ref_eq]
              rcases hlink with ⟨-, hlk⟩ | ⟨-, hlk⟩
              · exact fin _ (va_runV S hM ⟨hB hlk, hts _ (f7 (by rw [h1k]; decide)), hts _ (f8 h1k)⟩ ⟨hblind, hrc, hpc⟩ rfl hnA hl.1.1 hstk hW (zq_dl hd hn rfl) hfc)
              · exact fin _ (va_runVN S hM ⟨hBN hlk, hts _ (f7 (by rw [h1k]; decide)), hts _ (f8 h1k)⟩ ⟨hblind, hrc, hpc⟩ rfl hnA hl.1.1 hstk hW (zq_dl hd hn rfl) hfc)
            next => cases hrcv
          · cases hik
            have h2k : q'.2.2.2.2.2.2 = 2 := hkd
            rw [h2k, if_neg (by decide)] at hB hBN
            have hpos := f11 (by rw [h2k]; decide)
            rw [(f9 h2k).2] at hB hBN
            rcases hrcv with hbad | hrcv
            · cases hbad
            unfold zq_rcv at hrcv
            split at hrcv
            next a hsa =>
              have hkda := of_decide_eq_true hrcv
              obtain ⟨j, rfl, hj⟩ := zq_kd_at hkda
              obtain ⟨e2, e3⟩ := zq_split hpos hsa
              have e4 : (st.take q'.2.2.2.2.2.1).reverse.map (zq_tr sz ad) = .ref (sz + j) :: (st.take (q'.2.2.2.2.2.1 - 1)).reverse.map (zq_tr sz ad) := by
                rw [e3, List.map_cons, zq_ref_eq]
              rw [e4] at hpc
              have hnA : ((st.take (q'.2.2.2.2.2.1 - 1)).reverse.map (zq_tr sz ad)).length = q'.2.2.2.2.2.1 - 1 := by simp; omega
              have hstk : (F0 m pc ls (st.map (zq_tr sz ad))).stack = ((st.take (q'.2.2.2.2.2.1 - 1)).reverse.map (zq_tr sz ad)).reverse ++ .ref (sz + j) :: (st.drop q'.2.2.2.2.2.1).map (zq_tr sz ad) := by
                show st.map (zq_tr sz ad) = _
                rw [← List.map_reverse, List.reverse_reverse]
                conv => lhs; rw [e2]
                rw [List.map_append, List.map_cons, zq_ref_eq]
              rcases hlink with ⟨-, hlk⟩ | ⟨-, hlk⟩
              · exact fin _ (va_runI S hM ⟨hB hlk, (f9 h2k).1, hts _ (f7 (by rw [h2k]; decide))⟩ ⟨hblind, hpc⟩ rfl hnA hl.1.1 hstk hW (zq_dl hd hn rfl) hfc)
              · exact fin _ (va_runIN S hM ⟨hBN hlk, (f9 h2k).1, hts _ (f7 (by rw [h2k]; decide))⟩ ⟨hblind, hpc⟩ rfl hnA hl.1.1 hstk hW (zq_dl hd hn rfl) hfc)
            next => cases hrcv
          · cases hik
        next => cases hcal
/-- every method's contract: what the small machine runs, the machine runs -/
theorem zq_met {al : Bool} (n : Nat) : zq_MtP dC dI cA sz ad sc al l n := zq_mt_of (zq_body n)
end ZG
end
section
/-! runs of the small machine, goal first: what a method answers, without fuel -/
theorem zq_run_mono {sc : zX} {al : Bool} : ∀ (n d k pc : Nat) (lv : List (Option Value)) (st : List Value) (h : zH) (o : Option Value × zH), zq_run sc al n d k pc lv st h = some o → ∀ m, n ≤ m → zq_run sc al m d k pc lv st h = some o := by
  intro n
  induction n with
  | zero => intro d k pc lv st h o hr; cases hr
  | succ n ih =>
    intro d k pc lv st h o hr m hm
    obtain ⟨m, rfl⟩ : ∃ m', m = m' + 1 := ⟨m - 1, by omega⟩
    have hnm : n ≤ m := by omega
    unfold zq_run at hr ⊢
    split at hr
    · cases hr
    next ins len hcode =>
    split at hr
    next c hc => exact ih _ _ _ _ _ _ _ hr m hnm
    next =>
      split at hr
      next v hv => exact hr
      next =>
        split at hr
        · cases hr
        next k' as rest hcal =>
        split at hr
        · cases hr
        next d' =>
        split at hr
        · cases hr
        next v1 h1 hr1 =>
        rw [ih _ _ _ _ _ _ _ hr1 m hnm]
        exact ih _ _ _ _ _ _ _ hr m hnm
def zq_wp (sc : zX) (d k pc : Nat) (lv : List (Option Value)) (st : List Value) (h : zH) (o : Option Value × zH) : Prop := ∃ n, zq_run sc false n d k pc lv st h = some o
def zq_wm (sc : zX) (d k : Nat) (as : List Value) (h : zH) (o : Option Value × zH) : Prop := zq_wp sc d k 0 (zq_ent (zq_maxL k) as) [] h o
/-- several steps at once -/
def zq_go (sc : zX) (d k : Nat) : Nat → zC → Option zC
  | 0, c => some c
  | n + 1, c => match zq_code k c.1 with
    | none => none
    | some x => match zq_stp sc false d (zq_own k) (zq_ini k) x.1 c.1 c.2.1 c.2.2.1 c.2.2.2 with
      | some c' => zq_go sc d k n c'
      | none => none
section ZW
variable {sc : zX} {d k pc : Nat} {lv : List (Option Value)} {st : List Value} {h : zH} {o : Option Value × zH}
theorem zq_w1 {x : Instr × Nat} {c : zC} (hc : zq_code k pc = some x) (hs : zq_stp sc false d (zq_own k) (zq_ini k) x.1 pc lv st h = some c) (kk : zq_wp sc d k c.1 c.2.1 c.2.2.1 c.2.2.2 o) : zq_wp sc d k pc lv st h o := by
  obtain ⟨n, hn⟩ := kk
  refine ⟨n + 1, ?_⟩
  unfold zq_run
  obtain ⟨ins, len⟩ := x
  simp only [hc, hs]
  exact hn
theorem zq_ws' : ∀ (n : Nat) (c c' : zC), zq_go sc d k n c = some c' → zq_wp sc d k c'.1 c'.2.1 c'.2.2.1 c'.2.2.2 o → zq_wp sc d k c.1 c.2.1 c.2.2.1 c.2.2.2 o := by
  intro n
  induction n with
  | zero => intro c c' hg kk; cases hg; exact kk
  | succ n ih =>
    intro c c' hg kk
    unfold zq_go at hg
    split at hg
    · cases hg
    next x hx =>
      split at hg
      next c1 h1 => exact zq_w1 hx h1 (ih c1 c' hg kk)
      next => cases hg
theorem zq_wg (n : Nat) {pc' : Nat} {lv' : List (Option Value)} {st' : List Value} {h' : zH} (hg : zq_go sc d k n (pc, lv, st, h) = some (pc', lv', st', h')) (kk : zq_wp sc d k pc' lv' st' h' o) : zq_wp sc d k pc lv st h o := zq_ws' n (pc, lv, st, h) (pc', lv', st', h') hg kk
theorem zq_wr {x : Instr × Nat} {v : Option Value} (hc : zq_code k pc = some x) (hs : zq_stp sc false d (zq_own k) (zq_ini k) x.1 pc lv st h = none) (hr : zq_ret (zq_rt k) x.1 st = some v) (ho : (v, h) = o) : zq_wp sc d k pc lv st h o := by
  refine ⟨1, ?_⟩
  unfold zq_run
  obtain ⟨ins, len⟩ := x
  simp only [hc, hs, hr]
  rw [ho]
theorem zq_wc {x : Instr × Nat} {k' : Nat} {as rest : List Value} {v : Option Value} {h1 : zH} (hc : zq_code k pc = some x) (hs : zq_stp sc false (d + 1) (zq_own k) (zq_ini k) x.1 pc lv st h = none) (hr : zq_ret (zq_rt k) x.1 st = none) (hcal : zq_cal (zq_own k) x.1 st h = some (k', as, rest)) (hm : zq_wm sc d k' as h (v, h1)) (kk : zq_wp sc (d + 1) k (pc + 3) lv (v.toList ++ rest) h1 o) : zq_wp sc (d + 1) k pc lv st h o := by
  obtain ⟨n1, e1⟩ := hm
  obtain ⟨n2, e2⟩ := kk
  refine ⟨max n1 n2 + 1, ?_⟩
  unfold zq_run
  obtain ⟨ins, len⟩ := x
  simp only [hc, hs, hr, hcal]
  rw [zq_run_mono _ _ _ _ _ _ _ _ e1 (max n1 n2) (Nat.le_max_left _ _)]
  exact zq_run_mono _ _ _ _ _ _ _ _ e2 (max n1 n2) (Nat.le_max_right _ _)
end ZW
end
section
/-! rules by which methods are walked in the small machine, and the words of their answers -/
def zo_gI (h : zH) (ci o k : Nat) : Option Int32 := if zq_kd h o = some (0, ci) then some (h.2.1 o k) else none
def zo_gL (h : zH) (ci o k : Nat) : Option Int64 := if zq_kd h o = some (0, ci) then some (h.2.2.1 o k) else none
def zo_gR (h : zH) (ci o k : Nat) : Option Nat := if zq_kd h o = some (0, ci) then h.2.2.2 o k else none
def zo_gQ (h : zH) (ci o k : Nat) : Option (Option Nat) := if zq_kd h o = some (0, ci) then some (h.2.2.2 o k) else none
def zo_pI (h : zH) (ci o k : Nat) (v : Int32) : Option zH := if zq_kd h o = some (0, ci) then some (h.1, zq_sI h.2 o k v) else none
def zo_pB (h : zH) (ci o k : Nat) (v : Int32) : Option zH := if zq_kd h o = some (0, ci) ∧ zq_fit (zq_ty ci k) v = true then some (h.1, zq_sI h.2 o k v) else none
def zo_pL (h : zH) (ci o k : Nat) (v : Int64) : Option zH := if zq_kd h o = some (0, ci) then some (h.1, zq_sL h.2 o k v) else none
def zo_pR (h : zH) (ci o k : Nat) (v : Option Nat) : Option zH := if zq_kd h o = some (0, ci) then some (h.1, zq_sR h.2 o k v) else none
def zo_wU (a : Nat) : Option Int32 := if a < 36 then some (zq_wU.getD a 0) else none
def zo_wW (a : Nat) : Option Int32 := if a < 36 then some (zq_wW.getD a 0) else none
def zo_wC (a : Nat) : Option Int64 := if a < 36 then some (zq_wC.getD a 0) else none
def zo_rdR (h : zH) (a : Nat) (i : Int32) : Option Nat := (zq_rdR h a i).join
def zo_dv (x y : Int32) : Option Int32 := if y = 0 then none else some (x / y)
def zo_rm (x y : Int32) : Option Int32 := if y = 0 then none else some (x - x / y * y)
def zo_dvL (x y : Int64) : Option Int64 := if y = 0 then none else some (x / y)
def zo_rmL (x y : Int64) : Option Int64 := if y = 0 then none else some (x - x / y * y)
/-- an answer of a boolean or char method -/
def zo_rb (v : Int32) (h : zH) : Option (Int32 × zH) := if v = 0 ∨ v = 1 then some (v, h) else none
def zo_rc (v : Int32) (h : zH) : Option (Int32 × zH) := if 0 ≤ v ∧ v ≤ 65535 then some (v, h) else none
/-- what goes on behind a call -/
def zo_c {α β : Type} (x : Option (α × zH)) (f : α → zH → Option β) : Option β := match x with
  | none => none
  | some r => f r.1 r.2
def zo_v {α β : Type} (h : zH) (a ci : Nat) (x : Option (α × zH)) (f : α → zH → Option β) : Option β := if zq_kd h a = some (0, ci) then zo_c x f else none
def zo_b {α β : Type} (x : Option α) (f : α → Option β) : Option β := match x with
  | none => none
  | some r => f r
def zo_l {α β : Type} (x : α) (f : α → β) : β := f x
def zo_F : Nat := 100000
theorem zo_c_s {α β : Type} {x : Option (α × zH)} {f : α → zH → Option β} {o : β} (h : zo_c x f = some o) : ∃ a h', x = some (a, h') ∧ f a h' = some o := by
  cases x with
  | none => cases h
  | some r => exact ⟨r.1, r.2, rfl, h⟩
theorem zo_v_s {α β : Type} {h : zH} {a ci : Nat} {x : Option (α × zH)} {f : α → zH → Option β} {o : β} (hh : zo_v h a ci x f = some o) : zq_kd h a = some (0, ci) ∧ ∃ a h', x = some (a, h') ∧ f a h' = some o := by
  unfold zo_v at hh
  split at hh
  next hk => exact ⟨hk, zo_c_s hh⟩
  next => cases hh
theorem zo_b_s {α β : Type} {x : Option α} {f : α → Option β} {o : β} (h : zo_b x f = some o) : ∃ a, x = some a ∧ f a = some o := by
  cases x with
  | none => cases h
  | some r => exact ⟨r, rfl, h⟩
theorem zo_t {α : Type} {c : Prop} [Decidable c] {a b o : α} (h : (if c then a else b) = o) (hc : c) : a = o := by rw [if_pos hc] at h; exact h
theorem zo_f {α : Type} {c : Prop} [Decidable c] {a b o : α} (h : (if c then a else b) = o) (hc : ¬ c) : b = o := by rw [if_neg hc] at h; exact h
theorem zo_lt {α β : Type} {c : Prop} [Decidable c] {a b : α} {f : α → β} {o : β} (h : zo_l (if c then a else b) f = o) (hc : c) : zo_l a f = o := by rw [if_pos hc] at h; exact h
theorem zo_lf {α β : Type} {c : Prop} [Decidable c] {a b : α} {f : α → β} {o : β} (h : zo_l (if c then a else b) f = o) (hc : ¬ c) : zo_l b f = o := by rw [if_neg hc] at h; exact h
section ZW
variable {sc : zX} {d k pc : Nat} {lv : List (Option Value)} {st : List Value} {h : zH} {o : Option Value × zH}
theorem zr_if {x : Instr × Nat} (c : Prop) [Decidable c] (t e : Nat) {st' : List Value} (hc : zq_code k pc = some x) (hs : zq_stp sc false d (zq_own k) (zq_ini k) x.1 pc lv st h = some (if c then t else e, lv, st', h)) (kt : c → zq_wp sc d k t lv st' h o) (kf : ¬ c → zq_wp sc d k e lv st' h o) : zq_wp sc d k pc lv st h o := by
  refine zq_w1 hc hs ?_
  show zq_wp sc d k (if c then t else e) lv st' h o
  by_cases hcc : c
  · rw [if_pos hcc]; exact kt hcc
  · rw [if_neg hcc]; exact kf hcc
theorem zr_op {α : Type} {x : Instr × Nat} {op : Option α} (g : α → zC) (hc : zq_code k pc = some x) (hs : zq_stp sc false d (zq_own k) (zq_ini k) x.1 pc lv st h = op.map g) {v : α} (hv : op = some v) (kk : zq_wp sc d k (g v).1 (g v).2.1 (g v).2.2.1 (g v).2.2.2 o) : zq_wp sc d k pc lv st h o := zq_w1 hc (by rw [hs, hv]; rfl) kk
theorem zr_fld {i ci kf pz a : Nat} {v : Value} (hc : zq_code k pc = some (.getfield i, 3)) (hf : (zq_fps.getD (zq_own k) []).lookup i = some (ci, kf, pz)) (hci : ci < 11) (hv : zq_gf h ci a kf = some v) (kk : zq_wp sc d k (pc + 3) lv (v :: st) h o) : zq_wp sc d k pc lv (.ref a :: st) h o := by
  refine zq_w1 (c := (pc + 3, lv, v :: st, h)) hc ?_ kk
  show zq_g7 (zq_own k) (zq_ini k) (.getfield i) pc lv (.ref a :: st) h = _
  unfold zq_g7
  simp only [hf]
  rw [if_pos hci, hv]
  rfl
theorem zr_gI {i ci kf pz a : Nat} {v : Int32} (hc : zq_code k pc = some (.getfield i, 3)) (hf : (zq_fps.getD (zq_own k) []).lookup i = some (ci, kf, pz)) (hci : ci < 11) (ht : zq_tag (zq_ty ci kf) = 0) (hv : zo_gI h ci a kf = some v) (kk : zq_wp sc d k (pc + 3) lv (.int v :: st) h o) : zq_wp sc d k pc lv (.ref a :: st) h o := by
  refine zr_fld hc hf hci ?_ kk
  unfold zo_gI at hv
  unfold zq_gf
  split at hv
  next hk => rw [if_pos hk, ht]; cases hv; rfl
  next => cases hv
theorem zr_gL {i ci kf pz a : Nat} {v : Int64} (hc : zq_code k pc = some (.getfield i, 3)) (hf : (zq_fps.getD (zq_own k) []).lookup i = some (ci, kf, pz)) (hci : ci < 11) (ht : zq_tag (zq_ty ci kf) = 1) (hv : zo_gL h ci a kf = some v) (kk : zq_wp sc d k (pc + 3) lv (.long v :: st) h o) : zq_wp sc d k pc lv (.ref a :: st) h o := by
  refine zr_fld hc hf hci ?_ kk
  unfold zo_gL at hv
  unfold zq_gf
  split at hv
  next hk => rw [if_pos hk, ht]; cases hv; rfl
  next => cases hv
theorem zr_gR {i ci kf pz a : Nat} {v : Nat} (hc : zq_code k pc = some (.getfield i, 3)) (hf : (zq_fps.getD (zq_own k) []).lookup i = some (ci, kf, pz)) (hci : ci < 11) (ht : zq_tag (zq_ty ci kf) = 2) (hv : zo_gR h ci a kf = some v) (kk : zq_wp sc d k (pc + 3) lv (.ref v :: st) h o) : zq_wp sc d k pc lv (.ref a :: st) h o := by
  refine zr_fld hc hf hci ?_ kk
  unfold zo_gR at hv
  unfold zq_gf
  split at hv
  next hk => rw [if_pos hk, ht]; show some (va_rf (h.2.2.2 a kf)) = _; rw [hv]; rfl
  next => cases hv
theorem zr_gQ {i ci kf pz a : Nat} {v : Option Nat} (hc : zq_code k pc = some (.getfield i, 3)) (hf : (zq_fps.getD (zq_own k) []).lookup i = some (ci, kf, pz)) (hci : ci < 11) (ht : zq_tag (zq_ty ci kf) = 2) (hv : zo_gQ h ci a kf = some v) (kk : zq_wp sc d k (pc + 3) lv (va_rf v :: st) h o) : zq_wp sc d k pc lv (.ref a :: st) h o := by
  refine zr_fld hc hf hci ?_ kk
  unfold zo_gQ at hv
  unfold zq_gf
  split at hv
  next hk => rw [if_pos hk, ht]; cases hv; rfl
  next => cases hv
theorem zr_wU {i pz a : Nat} {v : Int32} (hc : zq_code k pc = some (.getfield i, 3)) (hf : (zq_fps.getD (zq_own k) []).lookup i = some (20, 1, pz)) (hv : zo_wU a = some v) (kk : zq_wp sc d k (pc + 3) lv (.int v :: st) h o) : zq_wp sc d k pc lv (.ref a :: st) h o := by
  refine zq_w1 (c := (pc + 3, lv, .int v :: st, h)) hc ?_ kk
  show zq_g7 (zq_own k) (zq_ini k) (.getfield i) pc lv (.ref a :: st) h = _
  unfold zo_wU at hv
  unfold zq_g7
  simp only [hf]
  split at hv
  next ha => rw [if_neg (by decide), if_pos ⟨trivial, ha⟩]; cases hv; rfl
  next => cases hv
theorem zr_wW {i pz a : Nat} {v : Int32} (hc : zq_code k pc = some (.getfield i, 3)) (hf : (zq_fps.getD (zq_own k) []).lookup i = some (20, 2, pz)) (hv : zo_wW a = some v) (kk : zq_wp sc d k (pc + 3) lv (.int v :: st) h o) : zq_wp sc d k pc lv (.ref a :: st) h o := by
  refine zq_w1 (c := (pc + 3, lv, .int v :: st, h)) hc ?_ kk
  show zq_g7 (zq_own k) (zq_ini k) (.getfield i) pc lv (.ref a :: st) h = _
  unfold zo_wW at hv
  unfold zq_g7
  simp only [hf]
  split at hv
  next ha => rw [if_neg (by decide), if_pos ⟨trivial, ha⟩]; cases hv; rfl
  next => cases hv
theorem zr_wC {i pz a : Nat} {v : Int64} (hc : zq_code k pc = some (.getfield i, 3)) (hf : (zq_fps.getD (zq_own k) []).lookup i = some (20, 0, pz)) (hv : zo_wC a = some v) (kk : zq_wp sc d k (pc + 3) lv (.long v :: st) h o) : zq_wp sc d k pc lv (.ref a :: st) h o := by
  refine zq_w1 (c := (pc + 3, lv, .long v :: st, h)) hc ?_ kk
  show zq_g7 (zq_own k) (zq_ini k) (.getfield i) pc lv (.ref a :: st) h = _
  unfold zo_wC at hv
  unfold zq_g7
  simp only [hf]
  split at hv
  next ha => rw [if_neg (by decide), if_pos ⟨trivial, ha⟩]; cases hv; rfl
  next => cases hv
theorem zr_put {i ci kf pz a : Nat} {v : Value} {h' : zH} (hc : zq_code k pc = some (.putfield i, 3)) (hf : (zq_fps.getD (zq_own k) []).lookup i = some (ci, kf, pz)) (hci : ci < 11) (hfin : (zq_Tf ci kf).2.2.2 = false) (hv : zq_pf h ci a kf v = some h') (kk : zq_wp sc d k (pc + 3) lv st h' o) : zq_wp sc d k pc lv (v :: .ref a :: st) h o := by
  refine zq_w1 (c := (pc + 3, lv, st, h')) hc ?_ kk
  show zq_g7 (zq_own k) (zq_ini k) (.putfield i) pc lv (v :: .ref a :: st) h = _
  unfold zq_g7
  simp only [hf]
  rw [if_pos ⟨hci, Or.inl hfin⟩, hv]
  rfl
theorem zr_pI {i ci kf pz a : Nat} {v : Int32} {h' : zH} (hc : zq_code k pc = some (.putfield i, 3)) (hf : (zq_fps.getD (zq_own k) []).lookup i = some (ci, kf, pz)) (hci : ci < 11) (hfin : (zq_Tf ci kf).2.2.2 = false) (ht : zq_ty ci kf = .int) (hv : zo_pI h ci a kf v = some h') (kk : zq_wp sc d k (pc + 3) lv st h' o) : zq_wp sc d k pc lv (.int v :: .ref a :: st) h o := by
  refine zr_put hc hf hci hfin ?_ kk
  unfold zo_pI at hv
  unfold zq_pf
  split at hv
  next hk => rw [if_pos hk, ht]; exact hv
  next => cases hv
theorem zr_pB {i ci kf pz a : Nat} {v : Int32} {h' : zH} (hc : zq_code k pc = some (.putfield i, 3)) (hf : (zq_fps.getD (zq_own k) []).lookup i = some (ci, kf, pz)) (hci : ci < 11) (hfin : (zq_Tf ci kf).2.2.2 = false) (ht : zq_tag (zq_ty ci kf) = 0) (hv : zo_pB h ci a kf v = some h') (kk : zq_wp sc d k (pc + 3) lv st h' o) : zq_wp sc d k pc lv (.int v :: .ref a :: st) h o := by
  refine zr_put hc hf hci hfin ?_ kk
  unfold zo_pB at hv
  unfold zq_pf
  split at hv
  next hk =>
    rw [if_pos hk.1, ht]
    show (if zq_fit (zq_ty ci kf) v = true then some (h.1, zq_sI h.2 a kf v) else none) = _
    rw [if_pos hk.2]
    exact hv
  next => cases hv
theorem zr_pL {i ci kf pz a : Nat} {v : Int64} {h' : zH} (hc : zq_code k pc = some (.putfield i, 3)) (hf : (zq_fps.getD (zq_own k) []).lookup i = some (ci, kf, pz)) (hci : ci < 11) (hfin : (zq_Tf ci kf).2.2.2 = false) (ht : zq_tag (zq_ty ci kf) = 1) (hv : zo_pL h ci a kf v = some h') (kk : zq_wp sc d k (pc + 3) lv st h' o) : zq_wp sc d k pc lv (.long v :: .ref a :: st) h o := by
  refine zr_put hc hf hci hfin ?_ kk
  unfold zo_pL at hv
  unfold zq_pf
  split at hv
  next hk => rw [if_pos hk, ht]; exact hv
  next => cases hv
theorem zr_pR {i ci kf pz a : Nat} {v : Option Nat} {h' : zH} (hc : zq_code k pc = some (.putfield i, 3)) (hf : (zq_fps.getD (zq_own k) []).lookup i = some (ci, kf, pz)) (hci : ci < 11) (hfin : (zq_Tf ci kf).2.2.2 = false) (ht : zq_tag (zq_ty ci kf) = 2) (hv : zo_pR h ci a kf v = some h') (kk : zq_wp sc d k (pc + 3) lv st h' o) : zq_wp sc d k pc lv (va_rf v :: .ref a :: st) h o := by
  refine zr_put hc hf hci hfin ?_ kk
  unfold zo_pR at hv
  unfold zq_pf
  split at hv
  next hk => rw [if_pos hk, ht]; cases v <;> exact hv
  next => cases hv
theorem zr_iald {a : Nat} {i v : Int32} (hc : zq_code k pc = some (.iaload, 1)) (hv : zq_rdI sc h a i = some v) (kk : zq_wp sc d k (pc + 1) lv (.int v :: st) h o) : zq_wp sc d k pc lv (.int i :: .ref a :: st) h o := zr_op (fun v => (pc + 1, lv, .int v :: st, h)) hc rfl hv kk
theorem zr_cald {a : Nat} {i v : Int32} (hc : zq_code k pc = some (.caload, 1)) (hv : zq_rdX 3 h a i = some v) (kk : zq_wp sc d k (pc + 1) lv (.int v :: st) h o) : zq_wp sc d k pc lv (.int i :: .ref a :: st) h o := zr_op (fun v => (pc + 1, lv, .int v :: st, h)) hc rfl hv kk
theorem zr_bald {a : Nat} {i v : Int32} (hc : zq_code k pc = some (.baload, 1)) (hv : zq_rdX 4 h a i = some v) (kk : zq_wp sc d k (pc + 1) lv (.int v :: st) h o) : zq_wp sc d k pc lv (.int i :: .ref a :: st) h o := zr_op (fun v => (pc + 1, lv, .int v :: st, h)) hc rfl hv kk
theorem zr_lald {a : Nat} {i : Int32} {v : Int64} (hc : zq_code k pc = some (.laload, 1)) (hv : zq_rdL h a i = some v) (kk : zq_wp sc d k (pc + 1) lv (.long v :: st) h o) : zq_wp sc d k pc lv (.int i :: .ref a :: st) h o := zr_op (fun v => (pc + 1, lv, .long v :: st, h)) hc rfl hv kk
theorem zr_aald {a : Nat} {i : Int32} {v : Nat} (hc : zq_code k pc = some (.aaload, 1)) (hv : zo_rdR h a i = some v) (kk : zq_wp sc d k (pc + 1) lv (.ref v :: st) h o) : zq_wp sc d k pc lv (.int i :: .ref a :: st) h o := by
  unfold zo_rdR at hv
  cases hr : zq_rdR h a i with
  | none => rw [hr] at hv; cases hv
  | some w =>
    rw [hr] at hv
    cases w with
    | none => cases hv
    | some u =>
      cases hv
      exact zr_op (fun v => (pc + 1, lv, va_rf v :: st, h)) hc rfl hr kk
theorem zr_alen {a : Nat} {v : Int32} (hc : zq_code k pc = some (.arraylength, 1)) (hv : zq_len sc h a = some v) (kk : zq_wp sc d k (pc + 1) lv (.int v :: st) h o) : zq_wp sc d k pc lv (.ref a :: st) h o := zr_op (fun v => (pc + 1, lv, .int v :: st, h)) hc rfl hv kk
theorem zr_iast {a : Nat} {i x : Int32} {h' : zH} (hc : zq_code k pc = some (.iastore, 1)) (hv : zq_wrX 1 h a i x = some h') (kk : zq_wp sc d k (pc + 1) lv st h' o) : zq_wp sc d k pc lv (.int x :: .int i :: .ref a :: st) h o := zr_op (fun h' => (pc + 1, lv, st, h')) hc rfl hv kk
theorem zr_cast {a : Nat} {i x : Int32} {h' : zH} (hc : zq_code k pc = some (.castore, 1)) (hv : zq_wrX 3 h a i (vp_nar .char x) = some h') (kk : zq_wp sc d k (pc + 1) lv st h' o) : zq_wp sc d k pc lv (.int x :: .int i :: .ref a :: st) h o := zr_op (fun h' => (pc + 1, lv, st, h')) hc rfl hv kk
theorem zr_bast {a : Nat} {i x : Int32} {h' : zH} (hc : zq_code k pc = some (.bastore, 1)) (hv : zq_wrX 4 h a i (vp_nar .boolean x) = some h') (kk : zq_wp sc d k (pc + 1) lv st h' o) : zq_wp sc d k pc lv (.int x :: .int i :: .ref a :: st) h o := zr_op (fun h' => (pc + 1, lv, st, h')) hc rfl hv kk
theorem zr_last {a : Nat} {i : Int32} {x : Int64} {h' : zH} (hc : zq_code k pc = some (.lastore, 1)) (hv : zq_wrL h a i x = some h') (kk : zq_wp sc d k (pc + 1) lv st h' o) : zq_wp sc d k pc lv (.long x :: .int i :: .ref a :: st) h o := zr_op (fun h' => (pc + 1, lv, st, h')) hc rfl hv kk
theorem zr_idiv {x y v : Int32} (hc : zq_code k pc = some (.idiv, 1)) (hv : zo_dv x y = some v) (kk : zq_wp sc d k (pc + 1) lv (.int v :: st) h o) : zq_wp sc d k pc lv (.int y :: .int x :: st) h o := by
  unfold zo_dv at hv
  split at hv
  next => cases hv
  next hy => cases hv; exact zq_w1 (c := (pc + 1, lv, .int (x / y) :: st, h)) hc (if_neg hy) kk
theorem zr_irem {x y v : Int32} (hc : zq_code k pc = some (.irem, 1)) (hv : zo_rm x y = some v) (kk : zq_wp sc d k (pc + 1) lv (.int v :: st) h o) : zq_wp sc d k pc lv (.int y :: .int x :: st) h o := by
  unfold zo_rm at hv
  split at hv
  next => cases hv
  next hy => cases hv; exact zq_w1 (c := (pc + 1, lv, .int (x - x / y * y) :: st, h)) hc (if_neg hy) kk
theorem zr_ldiv {x y v : Int64} (hc : zq_code k pc = some (.ldiv, 1)) (hv : zo_dvL x y = some v) (kk : zq_wp sc d k (pc + 1) lv (.long v :: st) h o) : zq_wp sc d k pc lv (.long y :: .long x :: st) h o := by
  unfold zo_dvL at hv
  split at hv
  next => cases hv
  next hy => cases hv; exact zq_w1 (c := (pc + 1, lv, .long (x / y) :: st, h)) hc (if_neg hy) kk
theorem zr_lrem {x y v : Int64} (hc : zq_code k pc = some (.lrem, 1)) (hv : zo_rmL x y = some v) (kk : zq_wp sc d k (pc + 1) lv (.long v :: st) h o) : zq_wp sc d k pc lv (.long y :: .long x :: st) h o := by
  unfold zo_rmL at hv
  split at hv
  next => cases hv
  next hy => cases hv; exact zq_w1 (c := (pc + 1, lv, .long (x - x / y * y) :: st, h)) hc (if_neg hy) kk
theorem zr_null {off : Int} {t : Nat} (w : Option Nat) (hc : zq_code k pc = some (.ifnull off, 3)) (ht : zq_tg pc off = some t) (kn : w = none → zq_wp sc d k t lv st h o) (ks : ∀ a, w = some a → zq_wp sc d k (pc + 3) lv st h o) : zq_wp sc d k pc lv (va_rf w :: st) h o := by
  cases w with
  | none =>
    refine zq_w1 (c := (t, lv, st, h)) hc ?_ (kn rfl)
    show (zq_tg pc off).map (fun t => (t, lv, st, h)) = _
    rw [ht]
    rfl
  | some a => exact zq_w1 (c := (pc + 3, lv, st, h)) hc rfl (ks a rfl)
/-- references that may be compared -/
def zo_ok (w : Option Nat) : Prop := ∀ i, w = some i → i < 38 ∨ 64 ≤ i
theorem zo_rok {w : Option Nat} (hw : zo_ok w) : zq_rok (va_rf w) = true := by
  cases w with
  | none => rfl
  | some i => exact decide_eq_true (hw i rfl)
theorem zo_rf_inj {w v : Option Nat} : va_rf w = va_rf v ↔ w = v := by
  constructor
  · intro h
    cases w <;> cases v <;> first | rfl | (cases h; done) | (cases h; rfl)
  · intro h; rw [h]
theorem zr_ane {off : Int} {t : Nat} (x y : Option Nat) (hc : zq_code k pc = some (.if_acmp .ne off, 3)) (ht : zq_tg pc off = some t) (hx : zo_ok x) (hy : zo_ok y) (ke : x = y → zq_wp sc d k (pc + 3) lv st h o) (kn : ¬ x = y → zq_wp sc d k t lv st h o) : zq_wp sc d k pc lv (va_rf y :: va_rf x :: st) h o := by
  have h1 : zq_stp sc false d (zq_own k) (zq_ini k) (.if_acmp .ne off) pc lv (va_rf y :: va_rf x :: st) h = some (if va_rf x = va_rf y then pc + 3 else t, lv, st, h) := by
    show (if zq_rok (va_rf x) = true ∧ zq_rok (va_rf y) = true then (zq_tg pc off).map (fun t => (if va_rf x = va_rf y then pc + 3 else t, lv, st, h)) else none) = _
    rw [if_pos ⟨zo_rok hx, zo_rok hy⟩, ht]
    rfl
  exact zr_if (va_rf x = va_rf y) (pc + 3) t hc h1 (fun e => ke (zo_rf_inj.mp e)) (fun e => kn (fun q => e (zo_rf_inj.mpr q)))
theorem zr_aeq {off : Int} {t : Nat} (x y : Option Nat) (hc : zq_code k pc = some (.if_acmp .eq off, 3)) (ht : zq_tg pc off = some t) (hx : zo_ok x) (hy : zo_ok y) (ke : x = y → zq_wp sc d k t lv st h o) (kn : ¬ x = y → zq_wp sc d k (pc + 3) lv st h o) : zq_wp sc d k pc lv (va_rf y :: va_rf x :: st) h o := by
  have h1 : zq_stp sc false d (zq_own k) (zq_ini k) (.if_acmp .eq off) pc lv (va_rf y :: va_rf x :: st) h = some (if va_rf x = va_rf y then t else pc + 3, lv, st, h) := by
    show (if zq_rok (va_rf x) = true ∧ zq_rok (va_rf y) = true then (zq_tg pc off).map (fun t => (if va_rf x = va_rf y then t else pc + 3, lv, st, h)) else none) = _
    rw [if_pos ⟨zo_rok hx, zo_rok hy⟩, ht]
    rfl
  exact zr_if (va_rf x = va_rf y) t (pc + 3) hc h1 (fun e => ke (zo_rf_inj.mp e)) (fun e => kn (fun q => e (zo_rf_inj.mpr q)))
/-- a table of targets -/
def zo_ts (pc : Nat) (dflt lo hi : Int) (offs : Array Int) (x : Int32) : Option Nat := if x.toInt < lo ∨ hi < x.toInt then zq_tg pc dflt else match offs[(x.toInt - lo).toNat]? with | some off => zq_tg pc off | none => none
theorem zr_ts {dflt lo hi : Int} {offs : Array Int} {len t : Nat} {x : Int32} (hc : zq_code k pc = some (.tableswitch dflt lo hi offs, len)) (ht : zo_ts pc dflt lo hi offs x = some t) (kk : zq_wp sc d k t lv st h o) : zq_wp sc d k pc lv (.int x :: st) h o := by
  refine zq_w1 (c := (t, lv, st, h)) hc ?_ kk
  show zq_g6 (.tableswitch dflt lo hi offs) pc lv (.int x :: st) h = _
  unfold zq_g6
  unfold zo_ts at ht
  dsimp only
  split at ht
  next hq => rw [if_pos hq, ht]; rfl
  next hq =>
    rw [if_neg hq]
    split at ht
    next off ho => rw [ho]; dsimp only; rw [ht]; rfl
    next => cases ht
theorem zr_max {i : Nat} {pz : Nat × Nat} {x y : Int32} (hc : zq_code k pc = some (.invokestatic i, 3)) (hp : (zq_pps.getD (zq_own k) []).lookup i = some (1000, pz)) (hcat : zq_cat st ≤ 8) (kk : zq_wp sc (d + 1) k (pc + 3) lv (.int (if x < y then y else x) :: st) h o) : zq_wp sc (d + 1) k pc lv (.int y :: .int x :: st) h o := by
  refine zq_w1 (c := (pc + 3, lv, .int (if x < y then y else x) :: st, h)) hc ?_ kk
  show zq_ga (d + 1) (zq_own k) (.invokestatic i) pc lv (.int y :: .int x :: st) h = _
  unfold zq_ga
  simp only [hp]
  rw [if_neg (Nat.succ_ne_zero d), if_pos trivial, if_pos hcat]
theorem zr_min {i : Nat} {pz : Nat × Nat} {x y : Int32} (hc : zq_code k pc = some (.invokestatic i, 3)) (hp : (zq_pps.getD (zq_own k) []).lookup i = some (1001, pz)) (hcat : zq_cat st ≤ 8) (kk : zq_wp sc (d + 1) k (pc + 3) lv (.int (if y < x then y else x) :: st) h o) : zq_wp sc (d + 1) k pc lv (.int y :: .int x :: st) h o := by
  refine zq_w1 (c := (pc + 3, lv, .int (if y < x then y else x) :: st, h)) hc ?_ kk
  show zq_ga (d + 1) (zq_own k) (.invokestatic i) pc lv (.int y :: .int x :: st) h = _
  unfold zq_ga
  simp only [hp]
  rw [if_neg (Nat.succ_ne_zero d), if_neg (by decide), if_pos trivial, if_pos hcat]
/-- a virtual call -/
theorem zr_cv {i k' a : Nat} {pz : Nat × Nat} (q : zq_I) (as' rest : List Value) {v : Option Value} {h1 : zH} (hc : zq_code k pc = some (.invokevirtual i, 3)) (hp : (zq_pps.getD (zq_own k) []).lookup i = some (k', pz)) (hq : zq_MT[k']? = some q) (hk : q.2.2.2.2.2.2 = 1) (hN : q.2.2.2.2.2.1 = as'.length + 1) (hcat : zq_cat rest ≤ 8) (hsl : (zq_sls (.ref a :: as')).length ≤ q.2.2.1) (hkd : zq_kd h a = some (0, q.2.2.2.2.1)) (hm : zq_wm sc d k' (.ref a :: as') h (v, h1)) (kk : zq_wp sc (d + 1) k (pc + 3) lv (v.toList ++ rest) h1 o) : zq_wp sc (d + 1) k pc lv (as'.reverse ++ .ref a :: rest) h o := by
  have e0 : as'.reverse ++ .ref a :: rest = (as'.reverse ++ [.ref a]) ++ rest := by simp
  have hl : (as'.reverse ++ [Value.ref a]).length = as'.length + 1 := by simp
  have e1 : (as'.reverse ++ .ref a :: rest).take (as'.length + 1) = as'.reverse ++ [.ref a] := by
    rw [e0, ← hl, List.take_left]
  have e2 : (as'.reverse ++ .ref a :: rest).drop (as'.length + 1) = rest := by
    rw [e0, ← hl, List.drop_left]
  have e3 : ((as'.reverse ++ .ref a :: rest).take (as'.length + 1)).reverse = .ref a :: as' := by rw [e1]; simp
  refine zq_wc hc rfl ?_ (k' := k') (as := .ref a :: as') (rest := rest) ?_ hm kk
  · unfold zq_ret; rfl
  · unfold zq_cal
    dsimp only
    simp only [hp, hq]
    rw [if_pos]
    · rw [hN, e3, e2]
    · refine ⟨hk, ?_, ?_, ?_, Or.inr ?_⟩
      · rw [hN]; simp
      · rw [hN, e2]; exact hcat
      · rw [hN, e3]; exact hsl
      · unfold zq_rcv
        have e4 : (as'.reverse ++ .ref a :: rest)[q.2.2.2.2.2.1 - 1]? = some (.ref a) := by
          rw [hN, List.getElem?_append_right (by simp)]
          simp
        rw [e4]
        exact decide_eq_true hkd
/-- a static call -/
theorem zr_cs {i k' : Nat} {pz : Nat × Nat} (q : zq_I) (as rest : List Value) {v : Option Value} {h1 : zH} (hc : zq_code k pc = some (.invokestatic i, 3)) (hp : (zq_pps.getD (zq_own k) []).lookup i = some (k', pz)) (hk' : k' < 1000) (hq : zq_MT[k']? = some q) (hk : q.2.2.2.2.2.2 = 0) (hN : q.2.2.2.2.2.1 = as.length) (hcat : zq_cat rest ≤ 8) (hsl : (zq_sls as).length ≤ q.2.2.1) (hm : zq_wm sc d k' as h (v, h1)) (kk : zq_wp sc (d + 1) k (pc + 3) lv (v.toList ++ rest) h1 o) : zq_wp sc (d + 1) k pc lv (as.reverse ++ rest) h o := by
  have hl : as.reverse.length = as.length := by simp
  have e1 : (as.reverse ++ rest).take as.length = as.reverse := by rw [← hl, List.take_left]
  have e2 : (as.reverse ++ rest).drop as.length = rest := by rw [← hl, List.drop_left]
  refine zq_wc hc ?_ ?_ (k' := k') (as := as) (rest := rest) ?_ hm kk
  · show zq_ga (d + 1) (zq_own k) (.invokestatic i) pc lv (as.reverse ++ rest) h = none
    unfold zq_ga
    simp only [hp]
    rw [if_neg (Nat.succ_ne_zero d), if_neg (by omega), if_neg (by omega)]
  · unfold zq_ret; rfl
  · unfold zq_cal
    dsimp only
    simp only [hp, hq]
    rw [if_pos]
    · rw [hN, e1, e2, List.reverse_reverse]
    · refine ⟨hk, ?_, ?_, ?_, Or.inl trivial⟩
      · rw [hN]; simp
      · rw [hN, e2]; exact hcat
      · rw [hN, e1, List.reverse_reverse]; exact hsl
theorem zr_ri {v r : Int32} {h' : zH} {ty : FieldType} (hc : zq_code k pc = some (.ireturn, 1)) (hr : zq_rt k = some ty) (hf : zq_fit ty v = true) (ho : some (v, h) = some (r, h')) : zq_wp sc d k pc lv [.int v] h (some (.int r), h') := by
  obtain ⟨rfl, rfl⟩ : v = r ∧ h = h' := by cases ho; exact ⟨rfl, rfl⟩
  refine zq_wr hc rfl (v := some (.int v)) ?_ rfl
  rw [hr]
  show (if zq_fit ty v = true then some (some (Value.int v)) else none) = _
  rw [if_pos hf]
theorem zr_rb {v r : Int32} {h' : zH} (hc : zq_code k pc = some (.ireturn, 1)) (hr : zq_rt k = some .boolean) (ho : zo_rb v h = some (r, h')) : zq_wp sc d k pc lv [.int v] h (some (.int r), h') := by
  unfold zo_rb at ho
  split at ho
  next hv => exact zr_ri hc hr (decide_eq_true hv) ho
  next => cases ho
theorem zr_rc {v r : Int32} {h' : zH} (hc : zq_code k pc = some (.ireturn, 1)) (hr : zq_rt k = some .char) (ho : zo_rc v h = some (r, h')) : zq_wp sc d k pc lv [.int v] h (some (.int r), h') := by
  unfold zo_rc at ho
  split at ho
  next hv => exact zr_ri hc hr (decide_eq_true hv) ho
  next => cases ho
theorem zr_rl {v r : Int64} {h' : zH} (hc : zq_code k pc = some (.lreturn, 1)) (hr : zq_rt k = some .long) (ho : some (v, h) = some (r, h')) : zq_wp sc d k pc lv [.long v] h (some (.long r), h') := by
  obtain ⟨rfl, rfl⟩ : v = r ∧ h = h' := by cases ho; exact ⟨rfl, rfl⟩
  refine zq_wr hc rfl (v := some (.long v)) ?_ rfl
  rw [hr]
  unfold zq_ret
  rfl
theorem zr_rv {h' : zH} {u : Unit} (hc : zq_code k pc = some (.return_, 1)) (hr : zq_rt k = none) (ho : some ((), h) = some (u, h')) : zq_wp sc d k pc lv [] h (none, h') := by
  obtain rfl : h = h' := by cases ho; rfl
  refine zq_wr hc rfl (v := none) ?_ rfl
  rw [hr]
  unfold zq_ret
  rfl
theorem zr_ra {w r : Option Nat} {h' : zH} {nm : String} (hc : zq_code k pc = some (.areturn, 1)) (hr : zq_rt k = some (.object nm)) (ho : some (w, h) = some (r, h')) : zq_wp sc d k pc lv [va_rf w] h (some (va_rf r), h') := by
  obtain ⟨rfl, rfl⟩ : w = r ∧ h = h' := by cases ho; exact ⟨rfl, rfl⟩
  have hs : zq_stp sc false d (zq_own k) (zq_ini k) .areturn pc lv [va_rf w] h = none := rfl
  refine zq_wr hc hs (v := some (va_rf w)) ?_ rfl
  rw [hr]
  cases w <;> rfl
end ZW
end
section
/-! locals that are dead may be forgotten -/
def zq_lvle (lv' lv : List (Option Value)) : Prop := lv'.length = lv.length ∧ ∀ i v, zq_ld lv' i = some v → zq_ld lv i = some v
theorem zq_clr_ld2 {lv : List (Option Value)} {i j : Nat} {v : Value} (h : zq_ld lv j = some v) (hc : j + 1 = i → v.category = 2 → ∃ w, zq_ld lv i = some w) : zq_ld (zq_clr lv i) j = some v := by
  unfold zq_clr
  split
  · exact h
  next hn =>
    have hni : ∀ w, ¬ zq_ld lv i = some w := fun w hw => hn w (zq_ld_lt hw)
    split
    · exact h
    next k =>
      have keep : ∀ x : Value, lv[k]? = some (some x) → x.category = 2 → zq_ld (lv.set k none) j = some v := by
        intro x hx hcx
        rw [zq_ld_set ((List.getElem?_eq_some_iff.mp hx).1)]
        by_cases hkj : k = j
        · exfalso
          subst hkj
          have e1 := zq_ld_lt h
          rw [hx] at e1
          cases e1
          obtain ⟨w, hw⟩ := hc rfl hcx
          exact hni w hw
        · rw [if_neg hkj]; exact h
      split
      next x hx => exact keep _ hx rfl
      next x hx => exact keep _ hx rfl
      next => exact h
theorem zq_s1_le {lv' lv l' : List (Option Value)} {i : Nat} {v : Value} (hle : zq_lvle lv' lv) (hs : zq_s1 lv' i v = some l') : ∃ l, zq_s1 lv i v = some l ∧ zq_lvle l' l := by
  have hlt := zq_s1_lt hs
  have hlt2 : i < lv.length := by rw [← hle.1]; exact hlt
  unfold zq_s1 at hs ⊢
  rw [if_pos hlt] at hs
  rw [if_pos hlt2]
  cases hs
  refine ⟨_, rfl, by rw [List.length_set, List.length_set, zq_clr_len, zq_clr_len]; exact hle.1, fun j w hw => ?_⟩
  rw [zq_ld_set (by rw [zq_clr_len]; exact hlt)] at hw
  rw [zq_ld_set (by rw [zq_clr_len]; exact hlt2)]
  by_cases hij : i = j
  · rw [if_pos hij] at hw ⊢; exact hw
  · rw [if_neg hij] at hw ⊢
    obtain ⟨h1, h2⟩ := zq_clr_ld hw
    exact zq_clr_ld2 (hle.2 j w h1) (fun e1 e2 => by obtain ⟨x, hx⟩ := h2 e1 e2; exact ⟨x, hle.2 i x hx⟩)
theorem zq_s2_le {lv' lv l' : List (Option Value)} {i : Nat} {v : Value} (hle : zq_lvle lv' lv) (hs : zq_s2 lv' i v = some l') : ∃ l, zq_s2 lv i v = some l ∧ zq_lvle l' l := by
  have hlt := zq_s2_lt hs
  have hlt2 : i + 1 < lv.length := by rw [← hle.1]; exact hlt
  unfold zq_s2 at hs ⊢
  rw [if_pos hlt] at hs
  rw [if_pos hlt2]
  cases hs
  refine ⟨_, rfl, by rw [List.length_set, List.length_set, List.length_set, List.length_set, zq_clr_len, zq_clr_len]; exact hle.1, fun j w hw => ?_⟩
  rw [zq_ld_set (by rw [List.length_set, zq_clr_len]; exact hlt), zq_ld_set (by rw [zq_clr_len]; omega)] at hw
  rw [zq_ld_set (by rw [List.length_set, zq_clr_len]; exact hlt2), zq_ld_set (by rw [zq_clr_len]; omega)]
  by_cases hij2 : i + 1 = j
  · rw [if_pos hij2] at hw; cases hw
  · rw [if_neg hij2] at hw ⊢
    by_cases hij : i = j
    · rw [if_pos hij] at hw ⊢; exact hw
    · rw [if_neg hij] at hw ⊢
      obtain ⟨h1, h2⟩ := zq_clr_ld hw
      exact zq_clr_ld2 (hle.2 j w h1) (fun e1 e2 => by obtain ⟨x, hx⟩ := h2 e1 e2; exact ⟨x, hle.2 i x hx⟩)
def zq_lm (lv : List (Option Value)) (c : zC) : zC := (c.1, lv, c.2.2)
theorem zq_g3_m (ins : Instr) (pc : Nat) (lv lv' : List (Option Value)) (st : List Value) (h : zH) : zq_g3 ins pc lv st h = (zq_g3 ins pc lv' st h).map (zq_lm lv) := by
  unfold zq_g3
  split <;> (try rfl) <;> split <;> (try rfl) <;> split <;> rfl
theorem zq_g4_m (ins : Instr) (pc : Nat) (lv lv' : List (Option Value)) (st : List Value) (h : zH) : zq_g4 ins pc lv st h = (zq_g4 ins pc lv' st h).map (zq_lm lv) := by
  unfold zq_g4
  split <;> (try rfl) <;> split <;> (try rfl) <;> split <;> rfl
theorem zq_g5_m (ins : Instr) (pc : Nat) (lv lv' : List (Option Value)) (st : List Value) (h : zH) : zq_g5 ins pc lv st h = (zq_g5 ins pc lv' st h).map (zq_lm lv) := by
  unfold zq_g5
  split <;> (try rfl) <;> (try split) <;> (try rfl) <;> (try split) <;> (try rfl) <;> (rw [Option.map_map]; rfl)
theorem zq_g6_m (ins : Instr) (pc : Nat) (lv lv' : List (Option Value)) (st : List Value) (h : zH) : zq_g6 ins pc lv st h = (zq_g6 ins pc lv' st h).map (zq_lm lv) := by
  unfold zq_g6
  split <;> (try rfl) <;> (try split) <;> (try rfl) <;> (try split) <;> (try rfl) <;> (try split) <;> (try rfl) <;> (rw [Option.map_map]; rfl)
theorem zq_g7_m (o : Nat) (ini : Bool) (ins : Instr) (pc : Nat) (lv lv' : List (Option Value)) (st : List Value) (h : zH) : zq_g7 o ini ins pc lv st h = (zq_g7 o ini ins pc lv' st h).map (zq_lm lv) := by
  unfold zq_g7
  split <;> (try rfl) <;> (try split) <;> (try rfl) <;> (try split) <;> (try rfl) <;> (try split) <;> (try rfl) <;> (try split) <;> (try rfl) <;> (try split) <;> (try rfl) <;> (rw [Option.map_map]; rfl)
theorem zq_g8_m (sc : zX) (ins : Instr) (pc : Nat) (lv lv' : List (Option Value)) (st : List Value) (h : zH) : zq_g8 sc ins pc lv st h = (zq_g8 sc ins pc lv' st h).map (zq_lm lv) := by
  unfold zq_g8
  split <;> (try rfl) <;> (try split) <;> (try rfl) <;> (rw [Option.map_map]; rfl)
theorem zq_g9_m (al : Bool) (o : Nat) (ins : Instr) (pc : Nat) (lv lv' : List (Option Value)) (st : List Value) (h : zH) : zq_g9 al o ins pc lv st h = (zq_g9 al o ins pc lv' st h).map (zq_lm lv) := by
  unfold zq_g9
  split <;> (try rfl) <;> (try split) <;> (try rfl) <;> (try split) <;> (try rfl) <;> (try split) <;> (try rfl) <;> (try split) <;> (try rfl) <;> (try split) <;> (try rfl)
theorem zq_ga_m (d o : Nat) (ins : Instr) (pc : Nat) (lv lv' : List (Option Value)) (st : List Value) (h : zH) : zq_ga d o ins pc lv st h = (zq_ga d o ins pc lv' st h).map (zq_lm lv) := by
  unfold zq_ga
  split <;> (try rfl) <;> (try split) <;> (try rfl) <;> (try split) <;> (try rfl) <;> (try split) <;> (try rfl) <;> (try split) <;> (try rfl) <;> (try split) <;> (try rfl) <;> (try split) <;> (try rfl) <;> (try split) <;> (try rfl)
def zq_lst (lv' lv : List (Option Value)) (a b : Option zC) : Prop := ∀ c', a = some c' → ∃ l, b = some (c'.1, l, c'.2.2) ∧ zq_lvle c'.2.1 l
theorem zq_lst_m {lv' lv : List (Option Value)} {a b : Option zC} (hle : zq_lvle lv' lv) (hm : b = a.map (zq_lm lv)) (hl : ∀ c', a = some c' → c'.2.1 = lv') : zq_lst lv' lv a b := by
  intro c' hc
  refine ⟨lv, by rw [hm, hc]; rfl, by rw [hl c' hc]; exact hle⟩
theorem zq_self {a : Option zC} {lv' : List (Option Value)} (hm : a = a.map (zq_lm lv')) : ∀ c', a = some c' → c'.2.1 = lv' := by
  intro c' hc
  rw [hc] at hm
  have h1 : c' = zq_lm lv' c' := Option.some.inj hm
  rw [h1]
  rfl
theorem zq_stp_le {sc : zX} {al : Bool} {d o pc : Nat} {ini : Bool} {ins : Instr} {lv' lv : List (Option Value)} {st : List Value} {h : zH} (hle : zq_lvle lv' lv) : zq_lst lv' lv (zq_stp sc al d o ini ins pc lv' st h) (zq_stp sc al d o ini ins pc lv st h) := by
  have h1 : zq_lst lv' lv (zq_g1 o ins pc lv' st h) (zq_g1 o ins pc lv st h) := by
    intro c' hc
    unfold zq_g1 at hc ⊢
    split at hc
    · cases hc; exact ⟨lv, rfl, hle⟩
    · split at hc
      next hh => cases hc; exact ⟨lv, by rw [if_pos hh], hle⟩
      next => cases hc
    · split at hc
      next hh => cases hc; exact ⟨lv, by rw [if_pos hh], hle⟩
      next => cases hc
    · cases hc; exact ⟨lv, rfl, hle⟩
    · cases hc; exact ⟨lv, rfl, hle⟩
    · split at hc
      next e1 hh => cases hc; exact ⟨lv, rfl, hle⟩
      next => cases hc
    · split at hc
      next e1 hh => cases hc; exact ⟨lv, rfl, hle⟩
      next => cases hc
    · split at hc
      next x hh => cases hc; exact ⟨lv, by rw [hle.2 _ _ hh], hle⟩
      next => cases hc
    · split at hc
      next x hh => cases hc; exact ⟨lv, by rw [hle.2 _ _ hh], hle⟩
      next => cases hc
    · split at hc
      next x hh => cases hc; exact ⟨lv, by rw [hle.2 _ _ hh], hle⟩
      next => cases hc
    · split at hc
      next x hh => cases hc; exact ⟨lv, by rw [hle.2 _ _ hh], hle⟩
      next => cases hc
    · cases hc
  have h2 : zq_lst lv' lv (zq_g2 ins pc lv' st h) (zq_g2 ins pc lv st h) := by
    intro c' hc
    unfold zq_g2 at hc ⊢
    split at hc
    · split at hc
      next x hx => cases hc; exact ⟨lv, by rw [hle.2 _ _ hx], hle⟩
      next hx => cases hc; exact ⟨lv, by rw [hle.2 _ _ hx], hle⟩
      next => cases hc
    · split at hc
      next x hx => cases hc; exact ⟨lv, by rw [hle.2 _ _ hx], hle⟩
      next hx => cases hc; exact ⟨lv, by rw [hle.2 _ _ hx], hle⟩
      next => cases hc
    · split at hc
      · obtain ⟨l', hs, rfl⟩ := Option.map_eq_some_iff.mp hc
        obtain ⟨l, e1, e2⟩ := zq_s1_le hle hs
        exact ⟨l, by rw [e1]; rfl, e2⟩
      · cases hc
    · split at hc
      · obtain ⟨l', hs, rfl⟩ := Option.map_eq_some_iff.mp hc
        obtain ⟨l, e1, e2⟩ := zq_s1_le hle hs
        exact ⟨l, by rw [e1]; rfl, e2⟩
      · cases hc
    · split at hc
      · obtain ⟨l', hs, rfl⟩ := Option.map_eq_some_iff.mp hc
        obtain ⟨l, e1, e2⟩ := zq_s2_le hle hs
        exact ⟨l, by rw [e1]; rfl, e2⟩
      · cases hc
    · split at hc
      · obtain ⟨l', hs, rfl⟩ := Option.map_eq_some_iff.mp hc
        obtain ⟨l, e1, e2⟩ := zq_s2_le hle hs
        exact ⟨l, by rw [e1]; rfl, e2⟩
      · cases hc
    · split at hc
      · obtain ⟨l', hs, rfl⟩ := Option.map_eq_some_iff.mp hc
        obtain ⟨l, e1, e2⟩ := zq_s1_le hle hs
        exact ⟨l, by rw [e1]; rfl, e2⟩
      · obtain ⟨l', hs, rfl⟩ := Option.map_eq_some_iff.mp hc
        obtain ⟨l, e1, e2⟩ := zq_s1_le hle hs
        exact ⟨l, by rw [e1]; rfl, e2⟩
      · cases hc
    · split at hc
      · obtain ⟨l', hs, rfl⟩ := Option.map_eq_some_iff.mp hc
        obtain ⟨l, e1, e2⟩ := zq_s1_le hle hs
        exact ⟨l, by rw [e1]; rfl, e2⟩
      · obtain ⟨l', hs, rfl⟩ := Option.map_eq_some_iff.mp hc
        obtain ⟨l, e1, e2⟩ := zq_s1_le hle hs
        exact ⟨l, by rw [e1]; rfl, e2⟩
      · cases hc
    · split at hc
      next x hx =>
        obtain ⟨l', hs, rfl⟩ := Option.map_eq_some_iff.mp hc
        obtain ⟨l, e1, e2⟩ := zq_s1_le hle hs
        exact ⟨l, by rw [hle.2 _ _ hx]; dsimp only; rw [e1]; rfl, e2⟩
      · cases hc
    · cases hc
  unfold zq_stp
  split
  all_goals first
    | exact h1
    | exact h2
    | exact zq_lst_m hle (zq_g3_m _ _ _ _ _ _) (zq_self (zq_g3_m _ _ _ _ _ _))
    | exact zq_lst_m hle (zq_g4_m _ _ _ _ _ _) (zq_self (zq_g4_m _ _ _ _ _ _))
    | exact zq_lst_m hle (zq_g5_m _ _ _ _ _ _) (zq_self (zq_g5_m _ _ _ _ _ _))
    | exact zq_lst_m hle (zq_g6_m _ _ _ _ _ _) (zq_self (zq_g6_m _ _ _ _ _ _))
    | exact zq_lst_m hle (zq_g7_m _ _ _ _ _ _ _ _) (zq_self (zq_g7_m _ _ _ _ _ _ _ _))
    | exact zq_lst_m hle (zq_g8_m _ _ _ _ _ _ _) (zq_self (zq_g8_m _ _ _ _ _ _ _))
    | exact zq_lst_m hle (zq_g9_m _ _ _ _ _ _ _ _) (zq_self (zq_g9_m _ _ _ _ _ _ _ _))
    | exact zq_lst_m hle (zq_ga_m _ _ _ _ _ _ _ _) (zq_self (zq_ga_m _ _ _ _ _ _ _ _))
    | (intro c' hc; cases hc)
theorem zq_stp_none {sc : zX} {al : Bool} {d o pc : Nat} {ini : Bool} {ins : Instr} {lv' lv : List (Option Value)} {st : List Value} {h : zH} {rt : Option FieldType} (hs : zq_stp sc al d o ini ins pc lv' st h = none) (hc : (∃ v, zq_ret rt ins st = some v) ∨ (∃ x, zq_cal o ins st h = some x)) : zq_stp sc al d o ini ins pc lv st h = none := by
  cases ins <;> first
    | rfl
    | (exfalso
       rcases hc with ⟨v, hv⟩ | ⟨x, hx⟩
       · simp [zq_ret] at hv
       · simp [zq_cal] at hx
       done)
    | (rename_i i1
       have h1 : zq_ga d o (.invokestatic i1) pc lv' st h = none := hs
       show zq_ga d o (.invokestatic i1) pc lv st h = none
       rw [zq_ga_m d o _ pc lv lv' st h, h1]
       rfl)
    | (rename_i i1
       have h1 : zq_ga d o (.invokespecial i1) pc lv' st h = none := hs
       show zq_ga d o (.invokespecial i1) pc lv st h = none
       rw [zq_ga_m d o _ pc lv lv' st h, h1]
       rfl)
theorem zq_run_le {sc : zX} {al : Bool} : ∀ (n d k pc : Nat) (lv lv' : List (Option Value)) (st : List Value) (h : zH) (o : Option Value × zH), zq_lvle lv' lv → zq_run sc al n d k pc lv' st h = some o → zq_run sc al n d k pc lv st h = some o := by
  intro n
  induction n with
  | zero => intro d k pc lv lv' st h o hle hr; cases hr
  | succ n ih =>
    intro d k pc lv lv' st h o hle hr
    unfold zq_run at hr ⊢
    split at hr
    · cases hr
    next ins len hcode =>
    split at hr
    next c hc =>
      obtain ⟨l, e1, e2⟩ := zq_stp_le hle c hc
      rw [e1]
      exact ih _ _ _ _ _ _ _ _ e2 hr
    next hnone =>
      split at hr
      next v hv =>
        rw [zq_stp_none (lv := lv) hnone (Or.inl ⟨v, hv⟩)]
        exact hr
      next =>
        split at hr
        · cases hr
        next k' as rest hcal =>
        rw [zq_stp_none (lv := lv) (rt := none) hnone (Or.inr ⟨_, hcal⟩)]
        dsimp only
        split at hr
        · cases hr
        next d' =>
        split at hr
        · cases hr
        next v1 h1 hr1 => exact ih _ _ _ _ _ _ _ _ hle hr
/-- forget what is dead -/
theorem zq_fg {sc : zX} {d k pc : Nat} {lv : List (Option Value)} {st : List Value} {h : zH} {o : Option Value × zH} (lv' : List (Option Value)) (hle : zq_lvle lv' lv) (kk : zq_wp sc d k pc lv' st h o) : zq_wp sc d k pc lv st h o := by
  obtain ⟨n, hn⟩ := kk
  exact ⟨n, zq_run_le n d k pc lv lv' st h o hle hn⟩
theorem zq_lvle_nil : zq_lvle [] [] := ⟨rfl, fun _ _ h => h⟩
theorem zq_lvle_n {x : Option Value} {a b : List (Option Value)} (h : zq_lvle a b) : zq_lvle (none :: a) (x :: b) := by
  refine ⟨by simp [h.1], fun i v hv => ?_⟩
  cases i with
  | zero => cases hv
  | succ j => exact h.2 j v hv
theorem zq_lvle_s {x : Option Value} {a b : List (Option Value)} (h : zq_lvle a b) : zq_lvle (x :: a) (x :: b) := by
  refine ⟨by simp [h.1], fun i v hv => ?_⟩
  cases i with
  | zero => exact hv
  | succ j => exact h.2 j v hv
/-- references that may be null, in locals -/
theorem zr_aldQ {sc : zX} {d k pc : Nat} {lv : List (Option Value)} {st : List Value} {h : zH} {o : Option Value × zH} {i : Nat} {w : Option Nat} (hc : zq_code k pc = some (.aload i, 2)) (hl : zq_ld lv i = some (va_rf w)) (kk : zq_wp sc d k (pc + 2) lv (va_rf w :: st) h o) : zq_wp sc d k pc lv st h o := by
  refine zq_w1 (c := (pc + 2, lv, va_rf w :: st, h)) hc ?_ kk
  show zq_g2 (.aload i) pc lv st h = _
  unfold zq_g2
  cases w with
  | none => dsimp only; rw [hl]; rfl
  | some a => dsimp only; rw [hl]; rfl
theorem zr_aldQn {sc : zX} {d k pc : Nat} {lv : List (Option Value)} {st : List Value} {h : zH} {o : Option Value × zH} {i : Fin 4} {w : Option Nat} (hc : zq_code k pc = some (.aload_n i, 1)) (hl : zq_ld lv i.val = some (va_rf w)) (kk : zq_wp sc d k (pc + 1) lv (va_rf w :: st) h o) : zq_wp sc d k pc lv st h o := by
  refine zq_w1 (c := (pc + 1, lv, va_rf w :: st, h)) hc ?_ kk
  show zq_g2 (.aload_n i) pc lv st h = _
  unfold zq_g2
  cases w with
  | none => dsimp only; rw [hl]; rfl
  | some a => dsimp only; rw [hl]; rfl
theorem zr_astQn {sc : zX} {d k pc : Nat} {lv lv' : List (Option Value)} {st : List Value} {h : zH} {o : Option Value × zH} {i : Fin 4} {w : Option Nat} (hc : zq_code k pc = some (.astore_n i, 1)) (hl : zq_s1 lv i.val (va_rf w) = some lv') (kk : zq_wp sc d k (pc + 1) lv' st h o) : zq_wp sc d k pc lv (va_rf w :: st) h o := by
  refine zq_w1 (c := (pc + 1, lv', st, h)) hc ?_ kk
  show zq_g2 (.astore_n i) pc lv (va_rf w :: st) h = _
  unfold zq_g2
  cases w with
  | none => dsimp only [va_rf] at hl ⊢; rw [hl]; rfl
  | some a => dsimp only [va_rf] at hl ⊢; rw [hl]; rfl
def zo_okb (w : Option Nat) : Bool := match w with
  | none => true
  | some i => decide (i < 38 ∨ 64 ≤ i)
theorem zo_okb_ok {w : Option Nat} (h : zo_okb w = true) : zo_ok w := by
  intro i hi
  subst hi
  exact of_decide_eq_true h
theorem zo_lj {α β : Type} {x : α} {f : α → β} {o : β} (h : zo_l x f = o) : ∃ j, j = x ∧ f j = o := ⟨x, rfl, h⟩
theorem zo_lx {α β : Type} {x : α} {f : α → β} {o : β} (h : zo_l x f = o) : ∃ g, g = f ∧ zo_l x g = o := ⟨f, rfl, h⟩
theorem zo_ne {x c : Int32} {z : Int} (h : ¬ x = c) (hc : c.toInt = z) : x.toInt ≠ z := fun e => h (Int32.toInt_inj.mp (e.trans hc.symm))
end
section
/-! methods as functions, and their walks; printed by wip/whole/decomp.py -/
set_option maxRecDepth 4000 in
def zm_posts (sc : zX) (a0 : Nat) (h : zH) : Option (Int32 × zH) := zo_b (zo_gR h 10 a0 10) (fun v1 => zo_b (zq_rdI sc h v1 (0 : Int32)) (fun v3 => some (v3, h)))
set_option maxRecDepth 4000 in
theorem zm_posts_ok (sc : zX) (d : Nat) (hd : 0 ≤ d) {a0 : Nat} {h : zH} {ro_ : Int32} {ho_ : zH} (hf : zm_posts sc a0 h = some (ro_, ho_)) : zq_wm sc d 151 [.ref a0] h (some (.int ro_), ho_) := by
  unfold zm_posts at hf
  show zq_wp sc d 151 0 [some (.ref a0)] [] h _
  refine zq_wg 1 (pc' := 1) (lv' := [some (.ref a0)]) (st' := [.ref a0]) (h' := h) rfl ?_
  obtain ⟨v1, e2, hf⟩ := zo_b_s hf
  refine zr_gR rfl rfl (by decide) rfl e2 ?_
  refine zq_wg 1 (pc' := 5) (lv' := [some (.ref a0)]) (st' := [.int (0 : Int32), .ref v1]) (h' := h) rfl ?_
  obtain ⟨v3, e4, hf⟩ := zo_b_s hf
  refine zr_iald rfl e4 ?_
  exact zr_ri rfl rfl rfl hf
set_option maxRecDepth 4000 in
def zm_postHeldBy_l5 (sc : zX) : Nat → Nat → Int32 → Int32 → Int32 → Int32 → zH → Option (Int32 × zH)
  | 0, _, _, _, _, _, _ => none
  | n + 1, y1, y2, y3, y4, y5, h6 => zo_v h6 y1 10 (zm_posts sc y1 h6) (fun v8 h7 => if v8 ≤ y5 then (some (y4, h7)) else (zo_b (zo_gR h7 10 y1 25) (fun v12 => zo_b (zq_rdI sc h7 v12 ((y2 + (4 : Int32)) + y5)) (fun v14 => zo_l (if v14 = y3 then y5 else y4) (fun (x16 : Int32) => zm_postHeldBy_l5 sc n y1 y2 y3 x16 (y5 + (1 : Int32)) h7 )))))
set_option maxRecDepth 4000 in
def zm_postHeldBy (sc : zX) (a0 : Nat) (a1 : Int32) (a2 : Int32) (h : zH) : Option (Int32 × zH) := zm_postHeldBy_l5 sc zo_F a0 a1 a2 (-1 : Int32) (0 : Int32) h 
set_option maxRecDepth 4000 in
theorem zm_postHeldBy_l5_ok (sc : zX) (d : Nat) (hd : 0 ≤ d) : ∀ (n : Nat) (y1 : Nat) (y2 : Int32) (y3 : Int32) (y4 : Int32) (y5 : Int32) (h6 : zH) (ro_ : Int32) (ho_ : zH),  zm_postHeldBy_l5 sc n y1 y2 y3 y4 y5 h6  = some (ro_, ho_) → zq_wp sc (d + 1) 199 5 [some (.ref y1), some (.int y2), some (.int y3), some (.int y4), some (.int y5)] [] h6 (some (.int ro_), ho_) := by
  intro n
  induction n with
  | zero => intro y1 y2 y3 y4 y5 h6 ro_ ho_ hf; cases hf
  | succ n ih =>
    intro y1 y2 y3 y4 y5 h6 ro_ ho_ hf
    refine zq_wg 2 (pc' := 8) (lv' := [some (.ref y1), some (.int y2), some (.int y3), some (.int y4), some (.int y5)]) (st' := [.ref y1, .int y5]) (h' := h6) rfl ?_
    obtain ⟨e10, v8, h7, e9, hf⟩ := zo_v_s hf
    refine zr_cv zq_m151 [] [.int y5] rfl rfl rfl rfl rfl (Nat.le_of_ble_eq_true rfl) (Nat.le_of_ble_eq_true rfl) e10 (zm_posts_ok sc d (by omega) e9) ?_
    refine zq_wg 0 (pc' := 11) (lv' := [some (.ref y1), some (.int y2), some (.int y3), some (.int y4), some (.int y5)]) (st' := [.int v8, .int y5]) (h' := h7) rfl ?_
    refine zr_if (v8 ≤ y5) 42 14 (st' := []) rfl rfl (fun b11 => ?_) (fun b11 => ?_)
    · have hf := zo_t hf b11
      refine zq_wg 1 (pc' := 43) (lv' := [some (.ref y1), some (.int y2), some (.int y3), some (.int y4), some (.int y5)]) (st' := [.int y4]) (h' := h7) rfl ?_
      exact zr_ri rfl rfl rfl hf
    · have hf := zo_f hf b11
      refine zq_wg 1 (pc' := 15) (lv' := [some (.ref y1), some (.int y2), some (.int y3), some (.int y4), some (.int y5)]) (st' := [.ref y1]) (h' := h7) rfl ?_
      obtain ⟨v12, e13, hf⟩ := zo_b_s hf
      refine zr_gR rfl rfl (by decide) rfl e13 ?_
      refine zq_wg 5 (pc' := 24) (lv' := [some (.ref y1), some (.int y2), some (.int y3), some (.int y4), some (.int y5)]) (st' := [.int ((y2 + (4 : Int32)) + y5), .ref v12]) (h' := h7) rfl ?_
      obtain ⟨v14, e15, hf⟩ := zo_b_s hf
      refine zr_iald rfl e15 ?_
      refine zq_wg 1 (pc' := 26) (lv' := [some (.ref y1), some (.int y2), some (.int y3), some (.int y4), some (.int y5)]) (st' := [.int y3, .int v14]) (h' := h7) rfl ?_
      obtain ⟨g35_16, hg35_16, hf⟩ := zo_lx hf
      have kg35_16 : ∀ (x16 : Int32), g35_16 x16 = some (ro_, ho_) → zq_wp sc (d + 1) 199 35 [some (.ref y1), some (.int y2), some (.int y3), some (.int y4), some (.int y5)] [.int x16] h7 (some (.int ro_), ho_) := by
        intro x16 hf
        rw [hg35_16] at hf
        refine zq_wg 3 (pc' := 5) (lv' := [some (.ref y1), some (.int y2), some (.int y3), some (.int x16), some (.int (y5 + (1 : Int32)))]) (st' := []) (h' := h7) rfl ?_
        exact ih y1 y2 y3 x16 (y5 + (1 : Int32)) h7 _ _ hf
      refine zr_if (v14 = y3) 29 34 (st' := []) rfl rfl (fun b17 => ?_) (fun b17 => ?_)
      · have hf := zo_lt hf b17
        refine zq_wg 2 (pc' := 35) (lv' := [some (.ref y1), some (.int y2), some (.int y3), some (.int y4), some (.int y5)]) (st' := [.int y5]) (h' := h7) rfl ?_
        exact kg35_16 _ hf
      · have hf := zo_lf hf b17
        refine zq_wg 1 (pc' := 35) (lv' := [some (.ref y1), some (.int y2), some (.int y3), some (.int y4), some (.int y5)]) (st' := [.int y4]) (h' := h7) rfl ?_
        exact kg35_16 _ hf
set_option maxRecDepth 4000 in
theorem zm_postHeldBy_ok (sc : zX) (d : Nat) (hd : 1 ≤ d) {a0 : Nat} {a1 : Int32} {a2 : Int32} {h : zH} {ro_ : Int32} {ho_ : zH} (hf : zm_postHeldBy sc a0 a1 a2 h = some (ro_, ho_)) : zq_wm sc d 199 [.ref a0, .int a1, .int a2] h (some (.int ro_), ho_) := by
  unfold zm_postHeldBy at hf
  obtain ⟨d, rfl⟩ : ∃ d', d = d' + 1 := ⟨d - 1, by omega⟩
  have hd : 0 ≤ d := by omega
  show zq_wp sc (d + 1) 199 0 [some (.ref a0), some (.int a1), some (.int a2), none, none] [] h _
  refine zq_wg 4 (pc' := 5) (lv' := [some (.ref a0), some (.int a1), some (.int a2), some (.int (-1 : Int32)), some (.int (0 : Int32))]) (st' := []) (h' := h) rfl ?_
  refine zm_postHeldBy_l5_ok sc d hd zo_F a0 a1 a2 (-1 : Int32) (0 : Int32) h _ _ hf
set_option maxRecDepth 4000 in
def zx_at (sc : zX) (a0 : Nat) (a1 : Int32) (h : zH) : Option (Int32 × zH) := if a1 < 0 then (some ((0 : Int32), h)) else (zo_b (zq_len sc h a0) (fun v2 => if v2 ≤ a1 then (some ((0 : Int32), h)) else (zo_b (zq_rdI sc h a0 a1) (fun v5 => some (v5, h)))))
set_option maxRecDepth 4000 in
theorem zx_at_ok (sc : zX) (d : Nat) (hd : 0 ≤ d) {a0 : Nat} {a1 : Int32} {h : zH} {ro_ : Int32} {ho_ : zH} (hf : zx_at sc a0 a1 h = some (ro_, ho_)) : zq_wm sc d 12 [.ref a0, .int a1] h (some (.int ro_), ho_) := by
  unfold zx_at at hf
  show zq_wp sc d 12 0 [some (.ref a0), some (.int a1)] [] h _
  refine zq_wg 1 (pc' := 1) (lv' := [some (.ref a0), some (.int a1)]) (st' := [.int a1]) (h' := h) rfl ?_
  refine zr_if (a1 < 0) 16 4 (st' := []) rfl rfl (fun b1 => ?_) (fun b1 => ?_)
  · have hf := zo_t hf b1
    refine zq_wg 1 (pc' := 17) (lv' := [some (.ref a0), some (.int a1)]) (st' := [.int (0 : Int32)]) (h' := h) rfl ?_
    exact zr_ri rfl rfl rfl hf
  · have hf := zo_f hf b1
    refine zq_wg 2 (pc' := 6) (lv' := [some (.ref a0), some (.int a1)]) (st' := [.ref a0, .int a1]) (h' := h) rfl ?_
    obtain ⟨v2, e3, hf⟩ := zo_b_s hf
    refine zr_alen rfl e3 ?_
    refine zr_if (v2 ≤ a1) 16 10 (st' := []) rfl rfl (fun b4 => ?_) (fun b4 => ?_)
    · have hf := zo_t hf b4
      refine zq_wg 1 (pc' := 17) (lv' := [some (.ref a0), some (.int a1)]) (st' := [.int (0 : Int32)]) (h' := h) rfl ?_
      exact zr_ri rfl rfl rfl hf
    · have hf := zo_f hf b4
      refine zq_wg 2 (pc' := 12) (lv' := [some (.ref a0), some (.int a1)]) (st' := [.int a1, .ref a0]) (h' := h) rfl ?_
      obtain ⟨v5, e6, hf⟩ := zo_b_s hf
      refine zr_iald rfl e6 ?_
      refine zq_wg 1 (pc' := 17) (lv' := [some (.ref a0), some (.int a1)]) (st' := [.int v5]) (h' := h) rfl ?_
      exact zr_ri rfl rfl rfl hf
set_option maxRecDepth 4000 in
def zx_State_postOf_l2 (sc : zX) : Nat → Nat → Int32 → Int32 → zH → Option (Int32 × zH)
  | 0, _, _, _, _ => none
  | n + 1, y1, y2, y3, h4 => if (6 : Int32) ≤ y3 then (some ((-1 : Int32), h4)) else (zo_b (zo_gR h4 4 y1 0) (fun v6 => zo_c (zx_at sc v6 y3 h4) (fun v9 h8 => if v9 = y2 then (some (y3, h8)) else (zx_State_postOf_l2 sc n y1 y2 (y3 + (1 : Int32)) h8 ))))
set_option maxRecDepth 4000 in
def zx_State_postOf (sc : zX) (a0 : Nat) (a1 : Int32) (h : zH) : Option (Int32 × zH) := zx_State_postOf_l2 sc zo_F a0 a1 (0 : Int32) h 
set_option maxRecDepth 4000 in
theorem zx_State_postOf_l2_ok (sc : zX) (d : Nat) (hd : 0 ≤ d) : ∀ (n : Nat) (y1 : Nat) (y2 : Int32) (y3 : Int32) (h4 : zH) (ro_ : Int32) (ho_ : zH),  zx_State_postOf_l2 sc n y1 y2 y3 h4  = some (ro_, ho_) → zq_wp sc (d + 1) 71 2 [some (.ref y1), some (.int y2), some (.int y3)] [] h4 (some (.int ro_), ho_) := by
  intro n
  induction n with
  | zero => intro y1 y2 y3 h4 ro_ ho_ hf; cases hf
  | succ n ih =>
    intro y1 y2 y3 h4 ro_ ho_ hf
    refine zq_wg 2 (pc' := 5) (lv' := [some (.ref y1), some (.int y2), some (.int y3)]) (st' := [.int (6 : Int32), .int y3]) (h' := h4) rfl ?_
    refine zr_if ((6 : Int32) ≤ y3) 28 8 (st' := []) rfl rfl (fun b5 => ?_) (fun b5 => ?_)
    · have hf := zo_t hf b5
      refine zq_wg 1 (pc' := 29) (lv' := [some (.ref y1), some (.int y2), some (.int y3)]) (st' := [.int (-1 : Int32)]) (h' := h4) rfl ?_
      exact zr_ri rfl rfl rfl hf
    · have hf := zo_f hf b5
      refine zq_wg 1 (pc' := 9) (lv' := [some (.ref y1), some (.int y2), some (.int y3)]) (st' := [.ref y1]) (h' := h4) rfl ?_
      obtain ⟨v6, e7, hf⟩ := zo_b_s hf
      refine zr_gR rfl rfl (by decide) rfl e7 ?_
      refine zq_wg 1 (pc' := 13) (lv' := [some (.ref y1), some (.int y2), some (.int y3)]) (st' := [.int y3, .ref v6]) (h' := h4) rfl ?_
      obtain ⟨v9, h8, e10, hf⟩ := zo_c_s hf
      refine zr_cs zq_m12 [.ref v6, .int y3] [] rfl rfl (by decide) rfl rfl rfl (Nat.le_of_ble_eq_true rfl) (Nat.le_of_ble_eq_true rfl) (zx_at_ok sc d (by omega) e10) ?_
      refine zq_wg 0 (pc' := 16) (lv' := [some (.ref y1), some (.int y2), some (.int y3)]) (st' := [.int v9]) (h' := h8) rfl ?_
      refine zq_wg 1 (pc' := 17) (lv' := [some (.ref y1), some (.int y2), some (.int y3)]) (st' := [.int y2, .int v9]) (h' := h8) rfl ?_
      refine zr_if (v9 = y2) 20 22 (st' := []) rfl rfl (fun b11 => ?_) (fun b11 => ?_)
      · have hf := zo_t hf b11
        refine zq_wg 1 (pc' := 21) (lv' := [some (.ref y1), some (.int y2), some (.int y3)]) (st' := [.int y3]) (h' := h8) rfl ?_
        exact zr_ri rfl rfl rfl hf
      · have hf := zo_f hf b11
        refine zq_wg 2 (pc' := 2) (lv' := [some (.ref y1), some (.int y2), some (.int (y3 + (1 : Int32)))]) (st' := []) (h' := h8) rfl ?_
        exact ih y1 y2 (y3 + (1 : Int32)) h8 _ _ hf
set_option maxRecDepth 4000 in
theorem zx_State_postOf_ok (sc : zX) (d : Nat) (hd : 1 ≤ d) {a0 : Nat} {a1 : Int32} {h : zH} {ro_ : Int32} {ho_ : zH} (hf : zx_State_postOf sc a0 a1 h = some (ro_, ho_)) : zq_wm sc d 71 [.ref a0, .int a1] h (some (.int ro_), ho_) := by
  unfold zx_State_postOf at hf
  obtain ⟨d, rfl⟩ : ∃ d', d = d' + 1 := ⟨d - 1, by omega⟩
  have hd : 0 ≤ d := by omega
  show zq_wp sc (d + 1) 71 0 [some (.ref a0), some (.int a1), none] [] h _
  refine zq_wg 2 (pc' := 2) (lv' := [some (.ref a0), some (.int a1), some (.int (0 : Int32))]) (st' := []) (h' := h) rfl ?_
  refine zx_State_postOf_l2_ok sc d hd zo_F a0 a1 (0 : Int32) h _ _ hf
set_option maxRecDepth 4000 in
def zm_cells (sc : zX) (a0 : Nat) (h : zH) : Option (Int32 × zH) := zo_b (zo_gR h 10 a0 10) (fun v1 => zo_b (zq_rdI sc h v1 (2 : Int32)) (fun v3 => some (v3, h)))
set_option maxRecDepth 4000 in
theorem zm_cells_ok (sc : zX) (d : Nat) (hd : 0 ≤ d) {a0 : Nat} {h : zH} {ro_ : Int32} {ho_ : zH} (hf : zm_cells sc a0 h = some (ro_, ho_)) : zq_wm sc d 215 [.ref a0] h (some (.int ro_), ho_) := by
  unfold zm_cells at hf
  show zq_wp sc d 215 0 [some (.ref a0)] [] h _
  refine zq_wg 1 (pc' := 1) (lv' := [some (.ref a0)]) (st' := [.ref a0]) (h' := h) rfl ?_
  obtain ⟨v1, e2, hf⟩ := zo_b_s hf
  refine zr_gR rfl rfl (by decide) rfl e2 ?_
  refine zq_wg 1 (pc' := 5) (lv' := [some (.ref a0)]) (st' := [.int (2 : Int32), .ref v1]) (h' := h) rfl ?_
  obtain ⟨v3, e4, hf⟩ := zo_b_s hf
  refine zr_iald rfl e4 ?_
  exact zr_ri rfl rfl rfl hf
set_option maxRecDepth 4000 in
def zm_bounded (sc : zX) (a0 : Nat) (a1 : Int32) (h : zH) : Option (Int32 × zH) := if 0 ≤ a1 then (zo_v h a0 10 (zm_cells sc a0 h) (fun v3 h2 => if a1 ≤ v3 then (some (a1, h2)) else (zo_v h2 a0 10 (zm_cells sc a0 h2) (fun v8 h7 => some (v8, h7))))) else (some ((0 : Int32), h))
set_option maxRecDepth 4000 in
theorem zm_bounded_ok (sc : zX) (d : Nat) (hd : 1 ≤ d) {a0 : Nat} {a1 : Int32} {h : zH} {ro_ : Int32} {ho_ : zH} (hf : zm_bounded sc a0 a1 h = some (ro_, ho_)) : zq_wm sc d 219 [.ref a0, .int a1] h (some (.int ro_), ho_) := by
  unfold zm_bounded at hf
  obtain ⟨d, rfl⟩ : ∃ d', d = d' + 1 := ⟨d - 1, by omega⟩
  have hd : 0 ≤ d := by omega
  show zq_wp sc (d + 1) 219 0 [some (.ref a0), some (.int a1)] [] h _
  refine zq_wg 1 (pc' := 1) (lv' := [some (.ref a0), some (.int a1)]) (st' := [.int a1]) (h' := h) rfl ?_
  refine zr_if (0 ≤ a1) 8 4 (st' := []) rfl rfl (fun b1 => ?_) (fun b1 => ?_)
  · have hf := zo_t hf b1
    refine zq_wg 2 (pc' := 10) (lv' := [some (.ref a0), some (.int a1)]) (st' := [.ref a0, .int a1]) (h' := h) rfl ?_
    obtain ⟨e5, v3, h2, e4, hf⟩ := zo_v_s hf
    refine zr_cv zq_m215 [] [.int a1] rfl rfl rfl rfl rfl (Nat.le_of_ble_eq_true rfl) (Nat.le_of_ble_eq_true rfl) e5 (zm_cells_ok sc d (by omega) e4) ?_
    refine zq_wg 0 (pc' := 13) (lv' := [some (.ref a0), some (.int a1)]) (st' := [.int v3, .int a1]) (h' := h2) rfl ?_
    refine zr_if (a1 ≤ v3) 23 16 (st' := []) rfl rfl (fun b6 => ?_) (fun b6 => ?_)
    · have hf := zo_t hf b6
      refine zq_wg 1 (pc' := 24) (lv' := [some (.ref a0), some (.int a1)]) (st' := [.int a1]) (h' := h2) rfl ?_
      exact zr_ri rfl rfl rfl hf
    · have hf := zo_f hf b6
      refine zq_wg 1 (pc' := 17) (lv' := [some (.ref a0), some (.int a1)]) (st' := [.ref a0]) (h' := h2) rfl ?_
      obtain ⟨e10, v8, h7, e9, hf⟩ := zo_v_s hf
      refine zr_cv zq_m215 [] [] rfl rfl rfl rfl rfl (Nat.le_of_ble_eq_true rfl) (Nat.le_of_ble_eq_true rfl) e10 (zm_cells_ok sc d (by omega) e9) ?_
      refine zq_wg 0 (pc' := 20) (lv' := [some (.ref a0), some (.int a1)]) (st' := [.int v8]) (h' := h7) rfl ?_
      refine zq_wg 1 (pc' := 24) (lv' := [some (.ref a0), some (.int a1)]) (st' := [.int v8]) (h' := h7) rfl ?_
      exact zr_ri rfl rfl rfl hf
  · have hf := zo_f hf b1
    refine zq_wg 2 (pc' := 24) (lv' := [some (.ref a0), some (.int a1)]) (st' := [.int (0 : Int32)]) (h' := h) rfl ?_
    exact zr_ri rfl rfl rfl hf
set_option maxRecDepth 4000 in
def zx_Tape_addEight_l3 (sc : zX) : Nat → Nat → Int64 → Int32 → zH → Option (Unit × zH)
  | 0, _, _, _, _ => none
  | n + 1, y1, y2, y3, h4 => if y3 < 0 then (some ((), h4)) else (zo_l (fun (x6 : Nat) (x7 : Int64) (x8 : Int32) (h9 : zH) => zx_Tape_addEight_l3 sc n x6 x7 (x8 + (-8 : Int32)) h9 ) (fun j79_9 => zo_l (fun (x10 : Nat) (x11 : Int64) (x12 : Int32) (x13 : Int32) (h14 : zH) => zo_b (zo_gI h14 5 x10 1) (fun v15 => if v15 < 0 then (j79_9 x10 x11 x12 h14) else (zo_b (zo_gI h14 5 x10 1) (fun v18 => zo_b (zo_gR h14 5 x10 0) (fun v20 => zo_b (zq_len sc h14 v20) (fun v22 => if v22 ≤ v18 then (j79_9 x10 x11 x12 h14) else (zo_b (zo_gR h14 5 x10 0) (fun v25 => zo_b (zo_gI h14 5 x10 1) (fun v27 => zo_b (zq_wrX 3 h14 v25 v27 (vp_nar .char ((x13.toUInt32 % 65536).toInt32))) (fun h29 => zo_b (zo_gI h29 5 x10 1) (fun v31 => zo_b (zo_pI h29 5 x10 1 (v31 + (1 : Int32))) (fun h33 => j79_9 x10 x11 x12 h33)))))))))))) (fun j38_14 => if ((y2 >>> (y3.toInt64 &&& 63)) &&& (255 : Int64)).toInt32 = (10 : Int32) then (j38_14 y1 y2 y3 (((y2 >>> (y3.toInt64 &&& 63)) &&& (255 : Int64)).toInt32) h4) else (if ((y2 >>> (y3.toInt64 &&& 63)) &&& (255 : Int64)).toInt32 < (32 : Int32) then (j79_9 y1 y2 y3 h4) else (if (126 : Int32) < ((y2 >>> (y3.toInt64 &&& 63)) &&& (255 : Int64)).toInt32 then (j79_9 y1 y2 y3 h4) else (j38_14 y1 y2 y3 (((y2 >>> (y3.toInt64 &&& 63)) &&& (255 : Int64)).toInt32) h4))))))
set_option maxRecDepth 4000 in
def zx_Tape_addEight (sc : zX) (a0 : Nat) (a1 : Int64) (h : zH) : Option (Unit × zH) := zx_Tape_addEight_l3 sc zo_F a0 a1 (56 : Int32) h 
set_option maxRecDepth 4000 in
theorem zx_Tape_addEight_l3_ok (sc : zX) (d : Nat) : ∀ (n : Nat) (y1 : Nat) (y2 : Int64) (y3 : Int32) (h4 : zH) (ro_ : Unit) (ho_ : zH),  zx_Tape_addEight_l3 sc n y1 y2 y3 h4  = some (ro_, ho_) → zq_wp sc d 14 3 [some (.ref y1), some (.long y2), none, some (.int y3), none] [] h4 (none, ho_) := by
  intro n
  induction n with
  | zero => intro y1 y2 y3 h4 ro_ ho_ hf; cases hf
  | succ n ih =>
    intro y1 y2 y3 h4 ro_ ho_ hf
    refine zq_wg 1 (pc' := 4) (lv' := [some (.ref y1), some (.long y2), none, some (.int y3), none]) (st' := [.int y3]) (h' := h4) rfl ?_
    refine zr_if (y3 < 0) 85 7 (st' := []) rfl rfl (fun b5 => ?_) (fun b5 => ?_)
    · have hf := zo_t hf b5
      exact zr_rv rfl rfl hf
    · have hf := zo_f hf b5
      refine zq_wg 9 (pc' := 21) (lv' := [some (.ref y1), some (.long y2), none, some (.int y3), some (.int (((y2 >>> (y3.toInt64 &&& 63)) &&& (255 : Int64)).toInt32))]) (st' := [.int (10 : Int32), .int (((y2 >>> (y3.toInt64 &&& 63)) &&& (255 : Int64)).toInt32)]) (h' := h4) rfl ?_
      obtain ⟨j79_9, hjj79_9, hf⟩ := zo_lj hf
      have kj79_9 : ∀ (x6 : Nat) (x7 : Int64) (x8 : Int32) (h9 : zH), j79_9 x6 x7 x8 h9 = some (ro_, ho_) → zq_wp sc d 14 79 [some (.ref x6), some (.long x7), none, some (.int x8), none] [] h9 (none, ho_) := by
        intro x6 x7 x8 h9 hf
        rw [hjj79_9] at hf
        refine zq_wg 2 (pc' := 3) (lv' := [some (.ref x6), some (.long x7), none, some (.int (x8 + (-8 : Int32))), none]) (st' := []) (h' := h9) rfl ?_
        exact ih x6 x7 (x8 + (-8 : Int32)) h9 _ _ hf
      obtain ⟨j38_14, hjj38_14, hf⟩ := zo_lj hf
      have kj38_14 : ∀ (x10 : Nat) (x11 : Int64) (x12 : Int32) (x13 : Int32) (h14 : zH), j38_14 x10 x11 x12 x13 h14 = some (ro_, ho_) → zq_wp sc d 14 38 [some (.ref x10), some (.long x11), none, some (.int x12), some (.int x13)] [] h14 (none, ho_) := by
        intro x10 x11 x12 x13 h14 hf
        rw [hjj38_14] at hf
        refine zq_wg 1 (pc' := 39) (lv' := [some (.ref x10), some (.long x11), none, some (.int x12), some (.int x13)]) (st' := [.ref x10]) (h' := h14) rfl ?_
        obtain ⟨v15, e16, hf⟩ := zo_b_s hf
        refine zr_gI rfl rfl (by decide) rfl e16 ?_
        refine zr_if (v15 < 0) 79 45 (st' := []) rfl rfl (fun b17 => ?_) (fun b17 => ?_)
        · have hf := zo_t hf b17
          refine zq_fg [some (.ref x10), some (.long x11), none, some (.int x12), none] (zq_lvle_s (zq_lvle_s (zq_lvle_s (zq_lvle_s (zq_lvle_n zq_lvle_nil))))) ?_
          exact kj79_9 x10 x11 x12 h14 hf
        · have hf := zo_f hf b17
          refine zq_wg 1 (pc' := 46) (lv' := [some (.ref x10), some (.long x11), none, some (.int x12), some (.int x13)]) (st' := [.ref x10]) (h' := h14) rfl ?_
          obtain ⟨v18, e19, hf⟩ := zo_b_s hf
          refine zr_gI rfl rfl (by decide) rfl e19 ?_
          refine zq_wg 1 (pc' := 50) (lv' := [some (.ref x10), some (.long x11), none, some (.int x12), some (.int x13)]) (st' := [.ref x10, .int v18]) (h' := h14) rfl ?_
          obtain ⟨v20, e21, hf⟩ := zo_b_s hf
          refine zr_gR rfl rfl (by decide) rfl e21 ?_
          obtain ⟨v22, e23, hf⟩ := zo_b_s hf
          refine zr_alen rfl e23 ?_
          refine zr_if (v22 ≤ v18) 79 57 (st' := []) rfl rfl (fun b24 => ?_) (fun b24 => ?_)
          · have hf := zo_t hf b24
            refine zq_fg [some (.ref x10), some (.long x11), none, some (.int x12), none] (zq_lvle_s (zq_lvle_s (zq_lvle_s (zq_lvle_s (zq_lvle_n zq_lvle_nil))))) ?_
            exact kj79_9 x10 x11 x12 h14 hf
          · have hf := zo_f hf b24
            refine zq_wg 1 (pc' := 58) (lv' := [some (.ref x10), some (.long x11), none, some (.int x12), some (.int x13)]) (st' := [.ref x10]) (h' := h14) rfl ?_
            obtain ⟨v25, e26, hf⟩ := zo_b_s hf
            refine zr_gR rfl rfl (by decide) rfl e26 ?_
            refine zq_wg 1 (pc' := 62) (lv' := [some (.ref x10), some (.long x11), none, some (.int x12), some (.int x13)]) (st' := [.ref x10, .ref v25]) (h' := h14) rfl ?_
            obtain ⟨v27, e28, hf⟩ := zo_b_s hf
            refine zr_gI rfl rfl (by decide) rfl e28 ?_
            refine zq_wg 2 (pc' := 68) (lv' := [some (.ref x10), some (.long x11), none, some (.int x12), some (.int x13)]) (st' := [.int ((x13.toUInt32 % 65536).toInt32), .int v27, .ref v25]) (h' := h14) rfl ?_
            obtain ⟨h29, e30, hf⟩ := zo_b_s hf
            refine zr_cast rfl e30 ?_
            refine zq_wg 2 (pc' := 71) (lv' := [some (.ref x10), some (.long x11), none, some (.int x12), some (.int x13)]) (st' := [.ref x10, .ref x10]) (h' := h29) rfl ?_
            obtain ⟨v31, e32, hf⟩ := zo_b_s hf
            refine zr_gI rfl rfl (by decide) rfl e32 ?_
            refine zq_wg 2 (pc' := 76) (lv' := [some (.ref x10), some (.long x11), none, some (.int x12), some (.int x13)]) (st' := [.int (v31 + (1 : Int32)), .ref x10]) (h' := h29) rfl ?_
            obtain ⟨h33, e34, hf⟩ := zo_b_s hf
            refine zr_pI rfl rfl (by decide) rfl rfl e34 ?_
            refine zq_fg [some (.ref x10), some (.long x11), none, some (.int x12), none] (zq_lvle_s (zq_lvle_s (zq_lvle_s (zq_lvle_s (zq_lvle_n zq_lvle_nil))))) ?_
            exact kj79_9 x10 x11 x12 h33 hf
      refine zr_if (((y2 >>> (y3.toInt64 &&& 63)) &&& (255 : Int64)).toInt32 = (10 : Int32)) 38 24 (st' := []) rfl rfl (fun b35 => ?_) (fun b35 => ?_)
      · have hf := zo_t hf b35
        exact kj38_14 y1 y2 y3 (((y2 >>> (y3.toInt64 &&& 63)) &&& (255 : Int64)).toInt32) h4 hf
      · have hf := zo_f hf b35
        refine zq_wg 2 (pc' := 28) (lv' := [some (.ref y1), some (.long y2), none, some (.int y3), some (.int (((y2 >>> (y3.toInt64 &&& 63)) &&& (255 : Int64)).toInt32))]) (st' := [.int (32 : Int32), .int (((y2 >>> (y3.toInt64 &&& 63)) &&& (255 : Int64)).toInt32)]) (h' := h4) rfl ?_
        refine zr_if (((y2 >>> (y3.toInt64 &&& 63)) &&& (255 : Int64)).toInt32 < (32 : Int32)) 79 31 (st' := []) rfl rfl (fun b36 => ?_) (fun b36 => ?_)
        · have hf := zo_t hf b36
          refine zq_fg [some (.ref y1), some (.long y2), none, some (.int y3), none] (zq_lvle_s (zq_lvle_s (zq_lvle_s (zq_lvle_s (zq_lvle_n zq_lvle_nil))))) ?_
          exact kj79_9 y1 y2 y3 h4 hf
        · have hf := zo_f hf b36
          refine zq_wg 2 (pc' := 35) (lv' := [some (.ref y1), some (.long y2), none, some (.int y3), some (.int (((y2 >>> (y3.toInt64 &&& 63)) &&& (255 : Int64)).toInt32))]) (st' := [.int (126 : Int32), .int (((y2 >>> (y3.toInt64 &&& 63)) &&& (255 : Int64)).toInt32)]) (h' := h4) rfl ?_
          refine zr_if ((126 : Int32) < ((y2 >>> (y3.toInt64 &&& 63)) &&& (255 : Int64)).toInt32) 79 38 (st' := []) rfl rfl (fun b37 => ?_) (fun b37 => ?_)
          · have hf := zo_t hf b37
            refine zq_fg [some (.ref y1), some (.long y2), none, some (.int y3), none] (zq_lvle_s (zq_lvle_s (zq_lvle_s (zq_lvle_s (zq_lvle_n zq_lvle_nil))))) ?_
            exact kj79_9 y1 y2 y3 h4 hf
          · have hf := zo_f hf b37
            exact kj38_14 y1 y2 y3 (((y2 >>> (y3.toInt64 &&& 63)) &&& (255 : Int64)).toInt32) h4 hf
set_option maxRecDepth 4000 in
theorem zx_Tape_addEight_ok (sc : zX) (d : Nat) (hd : 0 ≤ d) {a0 : Nat} {a1 : Int64} {h : zH} {ro_ : Unit} {ho_ : zH} (hf : zx_Tape_addEight sc a0 a1 h = some (ro_, ho_)) : zq_wm sc d 14 [.ref a0, .long a1] h (none, ho_) := by
  unfold zx_Tape_addEight at hf
  show zq_wp sc d 14 0 [some (.ref a0), some (.long a1), none, none, none] [] h _
  refine zq_wg 2 (pc' := 3) (lv' := [some (.ref a0), some (.long a1), none, some (.int (56 : Int32)), none]) (st' := []) (h' := h) rfl ?_
  refine zx_Tape_addEight_l3_ok sc d zo_F a0 a1 (56 : Int32) h _ _ hf
set_option maxRecDepth 4000 in
def zx_Army_hasPost (sc : zX) (a0 : Nat) (a1 : Int32) (h : zH) : Option (Int32 × zH) := if a1 < 0 then (some ((0 : Int32), h)) else (zo_b (zo_gI h 0 a0 0) (fun v2 => if v2 ≤ a1 then (some ((0 : Int32), h)) else (some ((1 : Int32), h))))
set_option maxRecDepth 4000 in
theorem zx_Army_hasPost_ok (sc : zX) (d : Nat) (hd : 0 ≤ d) {a0 : Nat} {a1 : Int32} {h : zH} {ro_ : Int32} {ho_ : zH} (hf : zx_Army_hasPost sc a0 a1 h = some (ro_, ho_)) : zq_wm sc d 66 [.ref a0, .int a1] h (some (.int ro_), ho_) := by
  unfold zx_Army_hasPost at hf
  show zq_wp sc d 66 0 [some (.ref a0), some (.int a1)] [] h _
  refine zq_wg 1 (pc' := 1) (lv' := [some (.ref a0), some (.int a1)]) (st' := [.int a1]) (h' := h) rfl ?_
  refine zr_if (a1 < 0) 16 4 (st' := []) rfl rfl (fun b1 => ?_) (fun b1 => ?_)
  · have hf := zo_t hf b1
    refine zq_wg 1 (pc' := 17) (lv' := [some (.ref a0), some (.int a1)]) (st' := [.int (0 : Int32)]) (h' := h) rfl ?_
    exact zr_ri rfl rfl rfl hf
  · have hf := zo_f hf b1
    refine zq_wg 2 (pc' := 6) (lv' := [some (.ref a0), some (.int a1)]) (st' := [.ref a0, .int a1]) (h' := h) rfl ?_
    obtain ⟨v2, e3, hf⟩ := zo_b_s hf
    refine zr_gI rfl rfl (by decide) rfl e3 ?_
    refine zr_if (v2 ≤ a1) 16 12 (st' := []) rfl rfl (fun b4 => ?_) (fun b4 => ?_)
    · have hf := zo_t hf b4
      refine zq_wg 1 (pc' := 17) (lv' := [some (.ref a0), some (.int a1)]) (st' := [.int (0 : Int32)]) (h' := h) rfl ?_
      exact zr_ri rfl rfl rfl hf
    · have hf := zo_f hf b4
      refine zq_wg 2 (pc' := 17) (lv' := [some (.ref a0), some (.int a1)]) (st' := [.int (1 : Int32)]) (h' := h) rfl ?_
      exact zr_ri rfl rfl rfl hf
set_option maxRecDepth 4000 in
def zx_Army_hasMan (sc : zX) (a0 : Nat) (a1 : Int32) (h : zH) : Option (Int32 × zH) := if a1 < 0 then (some ((0 : Int32), h)) else (zo_b (zo_gI h 0 a0 1) (fun v2 => if v2 ≤ a1 then (some ((0 : Int32), h)) else (some ((1 : Int32), h))))
set_option maxRecDepth 4000 in
theorem zx_Army_hasMan_ok (sc : zX) (d : Nat) (hd : 0 ≤ d) {a0 : Nat} {a1 : Int32} {h : zH} {ro_ : Int32} {ho_ : zH} (hf : zx_Army_hasMan sc a0 a1 h = some (ro_, ho_)) : zq_wm sc d 69 [.ref a0, .int a1] h (some (.int ro_), ho_) := by
  unfold zx_Army_hasMan at hf
  show zq_wp sc d 69 0 [some (.ref a0), some (.int a1)] [] h _
  refine zq_wg 1 (pc' := 1) (lv' := [some (.ref a0), some (.int a1)]) (st' := [.int a1]) (h' := h) rfl ?_
  refine zr_if (a1 < 0) 16 4 (st' := []) rfl rfl (fun b1 => ?_) (fun b1 => ?_)
  · have hf := zo_t hf b1
    refine zq_wg 1 (pc' := 17) (lv' := [some (.ref a0), some (.int a1)]) (st' := [.int (0 : Int32)]) (h' := h) rfl ?_
    exact zr_ri rfl rfl rfl hf
  · have hf := zo_f hf b1
    refine zq_wg 2 (pc' := 6) (lv' := [some (.ref a0), some (.int a1)]) (st' := [.ref a0, .int a1]) (h' := h) rfl ?_
    obtain ⟨v2, e3, hf⟩ := zo_b_s hf
    refine zr_gI rfl rfl (by decide) rfl e3 ?_
    refine zr_if (v2 ≤ a1) 16 12 (st' := []) rfl rfl (fun b4 => ?_) (fun b4 => ?_)
    · have hf := zo_t hf b4
      refine zq_wg 1 (pc' := 17) (lv' := [some (.ref a0), some (.int a1)]) (st' := [.int (0 : Int32)]) (h' := h) rfl ?_
      exact zr_ri rfl rfl rfl hf
    · have hf := zo_f hf b4
      refine zq_wg 2 (pc' := 17) (lv' := [some (.ref a0), some (.int a1)]) (st' := [.int (1 : Int32)]) (h' := h) rfl ?_
      exact zr_ri rfl rfl rfl hf
set_option maxRecDepth 4000 in
def zx_Army_skillOf (sc : zX) (a0 : Nat) (a1 : Int32) (a2 : Int32) (h : zH) : Option (Int32 × zH) := zo_v h a0 0 (zx_Army_hasMan sc a0 a1 h) (fun v2 h1 => if v2 = 0 then (some ((0 : Int32), h1)) else (zo_v h1 a0 0 (zx_Army_hasPost sc a0 a2 h1) (fun v7 h6 => if v7 = 0 then (some ((0 : Int32), h6)) else (zo_b (zo_gR h6 0 a0 15) (fun v11 => zo_c (zx_at sc v11 ((a1 * (6 : Int32)) + a2) h6) (fun v14 h13 => some (v14, h13)))))))
set_option maxRecDepth 4000 in
theorem zx_Army_skillOf_ok (sc : zX) (d : Nat) (hd : 1 ≤ d) {a0 : Nat} {a1 : Int32} {a2 : Int32} {h : zH} {ro_ : Int32} {ho_ : zH} (hf : zx_Army_skillOf sc a0 a1 a2 h = some (ro_, ho_)) : zq_wm sc d 68 [.ref a0, .int a1, .int a2] h (some (.int ro_), ho_) := by
  unfold zx_Army_skillOf at hf
  obtain ⟨d, rfl⟩ : ∃ d', d = d' + 1 := ⟨d - 1, by omega⟩
  have hd : 0 ≤ d := by omega
  show zq_wp sc (d + 1) 68 0 [some (.ref a0), some (.int a1), some (.int a2)] [] h _
  refine zq_wg 2 (pc' := 2) (lv' := [some (.ref a0), some (.int a1), some (.int a2)]) (st' := [.int a1, .ref a0]) (h' := h) rfl ?_
  obtain ⟨e4, v2, h1, e3, hf⟩ := zo_v_s hf
  refine zr_cv zq_m69 [.int a1] [] rfl rfl rfl rfl rfl (Nat.le_of_ble_eq_true rfl) (Nat.le_of_ble_eq_true rfl) e4 (zx_Army_hasMan_ok sc d (by omega) e3) ?_
  refine zq_wg 0 (pc' := 5) (lv' := [some (.ref a0), some (.int a1), some (.int a2)]) (st' := [.int v2]) (h' := h1) rfl ?_
  refine zr_if (v2 = 0) 32 8 (st' := []) rfl rfl (fun b5 => ?_) (fun b5 => ?_)
  · have hf := zo_t hf b5
    refine zq_wg 1 (pc' := 33) (lv' := [some (.ref a0), some (.int a1), some (.int a2)]) (st' := [.int (0 : Int32)]) (h' := h1) rfl ?_
    exact zr_ri rfl rfl rfl hf
  · have hf := zo_f hf b5
    refine zq_wg 2 (pc' := 10) (lv' := [some (.ref a0), some (.int a1), some (.int a2)]) (st' := [.int a2, .ref a0]) (h' := h1) rfl ?_
    obtain ⟨e9, v7, h6, e8, hf⟩ := zo_v_s hf
    refine zr_cv zq_m66 [.int a2] [] rfl rfl rfl rfl rfl (Nat.le_of_ble_eq_true rfl) (Nat.le_of_ble_eq_true rfl) e9 (zx_Army_hasPost_ok sc d (by omega) e8) ?_
    refine zq_wg 0 (pc' := 13) (lv' := [some (.ref a0), some (.int a1), some (.int a2)]) (st' := [.int v7]) (h' := h6) rfl ?_
    refine zr_if (v7 = 0) 32 16 (st' := []) rfl rfl (fun b10 => ?_) (fun b10 => ?_)
    · have hf := zo_t hf b10
      refine zq_wg 1 (pc' := 33) (lv' := [some (.ref a0), some (.int a1), some (.int a2)]) (st' := [.int (0 : Int32)]) (h' := h6) rfl ?_
      exact zr_ri rfl rfl rfl hf
    · have hf := zo_f hf b10
      refine zq_wg 1 (pc' := 17) (lv' := [some (.ref a0), some (.int a1), some (.int a2)]) (st' := [.ref a0]) (h' := h6) rfl ?_
      obtain ⟨v11, e12, hf⟩ := zo_b_s hf
      refine zr_gR rfl rfl (by decide) rfl e12 ?_
      refine zq_wg 5 (pc' := 26) (lv' := [some (.ref a0), some (.int a1), some (.int a2)]) (st' := [.int ((a1 * (6 : Int32)) + a2), .ref v11]) (h' := h6) rfl ?_
      obtain ⟨v14, h13, e15, hf⟩ := zo_c_s hf
      refine zr_cs zq_m12 [.ref v11, .int ((a1 * (6 : Int32)) + a2)] [] rfl rfl (by decide) rfl rfl rfl (Nat.le_of_ble_eq_true rfl) (Nat.le_of_ble_eq_true rfl) (zx_at_ok sc d (by omega) e15) ?_
      refine zq_wg 0 (pc' := 29) (lv' := [some (.ref a0), some (.int a1), some (.int a2)]) (st' := [.int v14]) (h' := h13) rfl ?_
      refine zq_wg 1 (pc' := 33) (lv' := [some (.ref a0), some (.int a1), some (.int a2)]) (st' := [.int v14]) (h' := h13) rfl ?_
      exact zr_ri rfl rfl rfl hf
set_option maxRecDepth 4000 in
def zx_Army_obeying_l4 (sc : zX) : Nat → Nat → Nat → Int32 → Int32 → zH → Option (Int32 × zH)
  | 0, _, _, _, _, _ => none
  | n + 1, y1, y2, y3, y4, h5 => zo_b (zo_gI h5 0 y1 0) (fun v6 => if v6 ≤ y4 then (some (y3, h5)) else (zo_b (zo_gR h5 0 y1 9) (fun v9 => zo_c (zx_at sc v9 y4 h5) (fun v12 h11 => zo_l (fun (x14 : Nat) (x15 : Nat) (x16 : Int32) (x17 : Int32) (x18 : Int32) (h19 : zH) => zo_l (fun (x20 : Nat) (x21 : Nat) (x22 : Int32) (x23 : Int32) (h24 : zH) => zx_Army_obeying_l4 sc n x20 x21 x22 (x23 + (1 : Int32)) h24 ) (fun j84_24 => if x18 = 0 then (j84_24 x14 x15 x16 x17 h19) else (zo_c (zx_at sc x15 x17 h19) (fun v27 h26 => if v27 = (-1 : Int32) then (j84_24 x14 x15 x16 x17 h26) else (j84_24 x14 x15 (x16 ||| ((1 : Int32) <<< (x17 &&& 31))) x17 h26))))) (fun j62_19 => zo_l (fun (x30 : Nat) (x31 : Nat) (x32 : Int32) (x33 : Int32) (h34 : zH) => j62_19 x30 x31 x32 x33 (1 : Int32) h34) (fun j57_34 => if v12 = (-1 : Int32) then (j57_34 y1 y2 y3 y4 h11) else (zo_l (fun (x36 : Nat) (x37 : Nat) (x38 : Int32) (x39 : Int32) (h40 : zH) => j62_19 x36 x37 x38 x39 (0 : Int32) h40) (fun j61_40 => if ((y3 >>> (v12 &&& 31)) &&& (1 : Int32)) = (1 : Int32) then (zo_c (zx_at sc y2 v12 h11) (fun v43 h42 => zo_v h42 y1 0 (zx_Army_skillOf sc y1 v43 v12 h42) (fun v46 h45 => zo_b (zo_gI h45 0 y1 6) (fun v49 => if v46 < v49 then (j61_40 y1 y2 y3 y4 h45) else (j57_34 y1 y2 y3 y4 h45))))) else (j61_40 y1 y2 y3 y4 h11)))))))))
set_option maxRecDepth 4000 in
def zx_Army_obeying (sc : zX) (a0 : Nat) (a1 : Nat) (h : zH) : Option (Int32 × zH) := zx_Army_obeying_l4 sc zo_F a0 a1 (0 : Int32) (0 : Int32) h 
set_option maxRecDepth 4000 in
theorem zx_Army_obeying_l4_ok (sc : zX) (d : Nat) (hd : 1 ≤ d) : ∀ (n : Nat) (y1 : Nat) (y2 : Nat) (y3 : Int32) (y4 : Int32) (h5 : zH) (ro_ : Int32) (ho_ : zH),  zx_Army_obeying_l4 sc n y1 y2 y3 y4 h5  = some (ro_, ho_) → zq_wp sc (d + 1) 67 4 [some (.ref y1), some (.ref y2), some (.int y3), some (.int y4), none, none] [] h5 (some (.int ro_), ho_) := by
  intro n
  induction n with
  | zero => intro y1 y2 y3 y4 h5 ro_ ho_ hf; cases hf
  | succ n ih =>
    intro y1 y2 y3 y4 h5 ro_ ho_ hf
    refine zq_wg 2 (pc' := 6) (lv' := [some (.ref y1), some (.ref y2), some (.int y3), some (.int y4), none, none]) (st' := [.ref y1, .int y4]) (h' := h5) rfl ?_
    obtain ⟨v6, e7, hf⟩ := zo_b_s hf
    refine zr_gI rfl rfl (by decide) rfl e7 ?_
    refine zr_if (v6 ≤ y4) 90 12 (st' := []) rfl rfl (fun b8 => ?_) (fun b8 => ?_)
    · have hf := zo_t hf b8
      refine zq_wg 1 (pc' := 91) (lv' := [some (.ref y1), some (.ref y2), some (.int y3), some (.int y4), none, none]) (st' := [.int y3]) (h' := h5) rfl ?_
      exact zr_ri rfl rfl rfl hf
    · have hf := zo_f hf b8
      refine zq_wg 1 (pc' := 13) (lv' := [some (.ref y1), some (.ref y2), some (.int y3), some (.int y4), none, none]) (st' := [.ref y1]) (h' := h5) rfl ?_
      obtain ⟨v9, e10, hf⟩ := zo_b_s hf
      refine zr_gR rfl rfl (by decide) rfl e10 ?_
      refine zq_wg 1 (pc' := 17) (lv' := [some (.ref y1), some (.ref y2), some (.int y3), some (.int y4), none, none]) (st' := [.int y4, .ref v9]) (h' := h5) rfl ?_
      obtain ⟨v12, h11, e13, hf⟩ := zo_c_s hf
      refine zr_cs zq_m12 [.ref v9, .int y4] [] rfl rfl (by decide) rfl rfl rfl (Nat.le_of_ble_eq_true rfl) (Nat.le_of_ble_eq_true rfl) (zx_at_ok sc d (by omega) e13) ?_
      refine zq_wg 0 (pc' := 20) (lv' := [some (.ref y1), some (.ref y2), some (.int y3), some (.int y4), none, none]) (st' := [.int v12]) (h' := h11) rfl ?_
      refine zq_wg 3 (pc' := 25) (lv' := [some (.ref y1), some (.ref y2), some (.int y3), some (.int y4), some (.int v12), none]) (st' := [.int (-1 : Int32), .int v12]) (h' := h11) rfl ?_
      obtain ⟨j62_19, hjj62_19, hf⟩ := zo_lj hf
      have kj62_19 : ∀ (x14 : Nat) (x15 : Nat) (x16 : Int32) (x17 : Int32) (x18 : Int32) (h19 : zH), j62_19 x14 x15 x16 x17 x18 h19 = some (ro_, ho_) → zq_wp sc (d + 1) 67 62 [some (.ref x14), some (.ref x15), some (.int x16), some (.int x17), none, none] [.int x18] h19 (some (.int ro_), ho_) := by
        intro x14 x15 x16 x17 x18 h19 hf
        rw [hjj62_19] at hf
        refine zq_wg 2 (pc' := 66) (lv' := [some (.ref x14), some (.ref x15), some (.int x16), some (.int x17), none, some (.int x18)]) (st' := [.int x18]) (h' := h19) rfl ?_
        obtain ⟨j84_24, hjj84_24, hf⟩ := zo_lj hf
        have kj84_24 : ∀ (x20 : Nat) (x21 : Nat) (x22 : Int32) (x23 : Int32) (h24 : zH), j84_24 x20 x21 x22 x23 h24 = some (ro_, ho_) → zq_wp sc (d + 1) 67 84 [some (.ref x20), some (.ref x21), some (.int x22), some (.int x23), none, none] [] h24 (some (.int ro_), ho_) := by
          intro x20 x21 x22 x23 h24 hf
          rw [hjj84_24] at hf
          refine zq_wg 2 (pc' := 4) (lv' := [some (.ref x20), some (.ref x21), some (.int x22), some (.int (x23 + (1 : Int32))), none, none]) (st' := []) (h' := h24) rfl ?_
          exact ih x20 x21 x22 (x23 + (1 : Int32)) h24 _ _ hf
        refine zr_if (x18 = 0) 84 69 (st' := []) rfl rfl (fun b25 => ?_) (fun b25 => ?_)
        · have hf := zo_t hf b25
          refine zq_fg [some (.ref x14), some (.ref x15), some (.int x16), some (.int x17), none, none] (zq_lvle_s (zq_lvle_s (zq_lvle_s (zq_lvle_s (zq_lvle_s (zq_lvle_n zq_lvle_nil)))))) ?_
          exact kj84_24 x14 x15 x16 x17 h19 hf
        · have hf := zo_f hf b25
          refine zq_wg 2 (pc' := 71) (lv' := [some (.ref x14), some (.ref x15), some (.int x16), some (.int x17), none, some (.int x18)]) (st' := [.int x17, .ref x15]) (h' := h19) rfl ?_
          obtain ⟨v27, h26, e28, hf⟩ := zo_c_s hf
          refine zr_cs zq_m12 [.ref x15, .int x17] [] rfl rfl (by decide) rfl rfl rfl (Nat.le_of_ble_eq_true rfl) (Nat.le_of_ble_eq_true rfl) (zx_at_ok sc d (by omega) e28) ?_
          refine zq_wg 0 (pc' := 74) (lv' := [some (.ref x14), some (.ref x15), some (.int x16), some (.int x17), none, some (.int x18)]) (st' := [.int v27]) (h' := h26) rfl ?_
          refine zq_wg 1 (pc' := 75) (lv' := [some (.ref x14), some (.ref x15), some (.int x16), some (.int x17), none, some (.int x18)]) (st' := [.int (-1 : Int32), .int v27]) (h' := h26) rfl ?_
          refine zr_if (v27 = (-1 : Int32)) 84 78 (st' := []) rfl rfl (fun b29 => ?_) (fun b29 => ?_)
          · have hf := zo_t hf b29
            refine zq_fg [some (.ref x14), some (.ref x15), some (.int x16), some (.int x17), none, none] (zq_lvle_s (zq_lvle_s (zq_lvle_s (zq_lvle_s (zq_lvle_s (zq_lvle_n zq_lvle_nil)))))) ?_
            exact kj84_24 x14 x15 x16 x17 h26 hf
          · have hf := zo_f hf b29
            refine zq_wg 6 (pc' := 84) (lv' := [some (.ref x14), some (.ref x15), some (.int (x16 ||| ((1 : Int32) <<< (x17 &&& 31)))), some (.int x17), none, some (.int x18)]) (st' := []) (h' := h26) rfl ?_
            refine zq_fg [some (.ref x14), some (.ref x15), some (.int (x16 ||| ((1 : Int32) <<< (x17 &&& 31)))), some (.int x17), none, none] (zq_lvle_s (zq_lvle_s (zq_lvle_s (zq_lvle_s (zq_lvle_s (zq_lvle_n zq_lvle_nil)))))) ?_
            exact kj84_24 x14 x15 (x16 ||| ((1 : Int32) <<< (x17 &&& 31))) x17 h26 hf
      obtain ⟨j57_34, hjj57_34, hf⟩ := zo_lj hf
      have kj57_34 : ∀ (x30 : Nat) (x31 : Nat) (x32 : Int32) (x33 : Int32) (h34 : zH), j57_34 x30 x31 x32 x33 h34 = some (ro_, ho_) → zq_wp sc (d + 1) 67 57 [some (.ref x30), some (.ref x31), some (.int x32), some (.int x33), none, none] [] h34 (some (.int ro_), ho_) := by
        intro x30 x31 x32 x33 h34 hf
        rw [hjj57_34] at hf
        refine zq_wg 2 (pc' := 62) (lv' := [some (.ref x30), some (.ref x31), some (.int x32), some (.int x33), none, none]) (st' := [.int (1 : Int32)]) (h' := h34) rfl ?_
        exact kj62_19 x30 x31 x32 x33 (1 : Int32) h34 hf
      refine zr_if (v12 = (-1 : Int32)) 57 28 (st' := []) rfl rfl (fun b35 => ?_) (fun b35 => ?_)
      · have hf := zo_t hf b35
        refine zq_fg [some (.ref y1), some (.ref y2), some (.int y3), some (.int y4), none, none] (zq_lvle_s (zq_lvle_s (zq_lvle_s (zq_lvle_s (zq_lvle_n (zq_lvle_s zq_lvle_nil)))))) ?_
        exact kj57_34 y1 y2 y3 y4 h11 hf
      · have hf := zo_f hf b35
        refine zq_wg 6 (pc' := 35) (lv' := [some (.ref y1), some (.ref y2), some (.int y3), some (.int y4), some (.int v12), none]) (st' := [.int (1 : Int32), .int ((y3 >>> (v12 &&& 31)) &&& (1 : Int32))]) (h' := h11) rfl ?_
        obtain ⟨j61_40, hjj61_40, hf⟩ := zo_lj hf
        have kj61_40 : ∀ (x36 : Nat) (x37 : Nat) (x38 : Int32) (x39 : Int32) (h40 : zH), j61_40 x36 x37 x38 x39 h40 = some (ro_, ho_) → zq_wp sc (d + 1) 67 61 [some (.ref x36), some (.ref x37), some (.int x38), some (.int x39), none, none] [] h40 (some (.int ro_), ho_) := by
          intro x36 x37 x38 x39 h40 hf
          rw [hjj61_40] at hf
          refine zq_wg 1 (pc' := 62) (lv' := [some (.ref x36), some (.ref x37), some (.int x38), some (.int x39), none, none]) (st' := [.int (0 : Int32)]) (h' := h40) rfl ?_
          exact kj62_19 x36 x37 x38 x39 (0 : Int32) h40 hf
        refine zr_if (((y3 >>> (v12 &&& 31)) &&& (1 : Int32)) = (1 : Int32)) 38 61 (st' := []) rfl rfl (fun b41 => ?_) (fun b41 => ?_)
        · have hf := zo_t hf b41
          refine zq_wg 3 (pc' := 42) (lv' := [some (.ref y1), some (.ref y2), some (.int y3), some (.int y4), some (.int v12), none]) (st' := [.int v12, .ref y2, .ref y1]) (h' := h11) rfl ?_
          obtain ⟨v43, h42, e44, hf⟩ := zo_c_s hf
          refine zr_cs zq_m12 [.ref y2, .int v12] [.ref y1] rfl rfl (by decide) rfl rfl rfl (Nat.le_of_ble_eq_true rfl) (Nat.le_of_ble_eq_true rfl) (zx_at_ok sc d (by omega) e44) ?_
          refine zq_wg 0 (pc' := 45) (lv' := [some (.ref y1), some (.ref y2), some (.int y3), some (.int y4), some (.int v12), none]) (st' := [.int v43, .ref y1]) (h' := h42) rfl ?_
          refine zq_wg 1 (pc' := 47) (lv' := [some (.ref y1), some (.ref y2), some (.int y3), some (.int y4), some (.int v12), none]) (st' := [.int v12, .int v43, .ref y1]) (h' := h42) rfl ?_
          obtain ⟨e48, v46, h45, e47, hf⟩ := zo_v_s hf
          refine zr_cv zq_m68 [.int v43, .int v12] [] rfl rfl rfl rfl rfl (Nat.le_of_ble_eq_true rfl) (Nat.le_of_ble_eq_true rfl) e48 (zx_Army_skillOf_ok sc d (by omega) e47) ?_
          refine zq_wg 0 (pc' := 50) (lv' := [some (.ref y1), some (.ref y2), some (.int y3), some (.int y4), some (.int v12), none]) (st' := [.int v46]) (h' := h45) rfl ?_
          refine zq_wg 1 (pc' := 51) (lv' := [some (.ref y1), some (.ref y2), some (.int y3), some (.int y4), some (.int v12), none]) (st' := [.ref y1, .int v46]) (h' := h45) rfl ?_
          obtain ⟨v49, e50, hf⟩ := zo_b_s hf
          refine zr_gI rfl rfl (by decide) rfl e50 ?_
          refine zr_if (v46 < v49) 61 57 (st' := []) rfl rfl (fun b51 => ?_) (fun b51 => ?_)
          · have hf := zo_t hf b51
            refine zq_fg [some (.ref y1), some (.ref y2), some (.int y3), some (.int y4), none, none] (zq_lvle_s (zq_lvle_s (zq_lvle_s (zq_lvle_s (zq_lvle_n (zq_lvle_s zq_lvle_nil)))))) ?_
            exact kj61_40 y1 y2 y3 y4 h45 hf
          · have hf := zo_f hf b51
            refine zq_fg [some (.ref y1), some (.ref y2), some (.int y3), some (.int y4), none, none] (zq_lvle_s (zq_lvle_s (zq_lvle_s (zq_lvle_s (zq_lvle_n (zq_lvle_s zq_lvle_nil)))))) ?_
            exact kj57_34 y1 y2 y3 y4 h45 hf
        · have hf := zo_f hf b41
          refine zq_fg [some (.ref y1), some (.ref y2), some (.int y3), some (.int y4), none, none] (zq_lvle_s (zq_lvle_s (zq_lvle_s (zq_lvle_s (zq_lvle_n (zq_lvle_s zq_lvle_nil)))))) ?_
          exact kj61_40 y1 y2 y3 y4 h11 hf
set_option maxRecDepth 4000 in
theorem zx_Army_obeying_ok (sc : zX) (d : Nat) (hd : 2 ≤ d) {a0 : Nat} {a1 : Nat} {h : zH} {ro_ : Int32} {ho_ : zH} (hf : zx_Army_obeying sc a0 a1 h = some (ro_, ho_)) : zq_wm sc d 67 [.ref a0, .ref a1] h (some (.int ro_), ho_) := by
  unfold zx_Army_obeying at hf
  obtain ⟨d, rfl⟩ : ∃ d', d = d' + 1 := ⟨d - 1, by omega⟩
  have hd : 1 ≤ d := by omega
  show zq_wp sc (d + 1) 67 0 [some (.ref a0), some (.ref a1), none, none, none, none] [] h _
  refine zq_wg 4 (pc' := 4) (lv' := [some (.ref a0), some (.ref a1), some (.int (0 : Int32)), some (.int (0 : Int32)), none, none]) (st' := []) (h' := h) rfl ?_
  refine zx_Army_obeying_l4_ok sc d hd zo_F a0 a1 (0 : Int32) (0 : Int32) h _ _ hf
set_option maxRecDepth 4000 in
def zx_Laws_joined (sc : zX) (a0 : Int32) (a1 : Int32) (a2 : Int32) (h : zH) : Option (Int32 × zH) := if a0 = (-7 : Int32) then (if a1 = 0 then (some ((0 : Int32), h)) else (if a2 = 0 then (some ((0 : Int32), h)) else (some ((1 : Int32), h)))) else if a0 = (-6 : Int32) then (zo_l (fun  (h5 : zH) => some ((1 : Int32), h5)) (fun j100_5 => if a1 = 0 then (if a2 = 0 then (some ((0 : Int32), h)) else (j100_5  h)) else (j100_5  h))) else if a0 = (-5 : Int32) then (if a1 = a2 then (some ((1 : Int32), h)) else (some ((0 : Int32), h))) else if a0 = (-4 : Int32) then (if a2 ≤ a1 then (some ((0 : Int32), h)) else (some ((1 : Int32), h))) else if a0 = (-3 : Int32) then (some ((a1 * a2), h)) else if a0 = (-2 : Int32) then (some ((a1 - a2), h)) else if a0 = (-1 : Int32) then (some ((a1 + a2), h)) else (zo_l (fun  (h15 : zH) => some ((1 : Int32), h15)) (fun j100_15 => if a1 = 0 then (if a2 = 0 then (some ((0 : Int32), h)) else (j100_15  h)) else (j100_15  h)))
set_option maxRecDepth 4000 in
theorem zx_Laws_joined_ok (sc : zX) (d : Nat) (hd : 0 ≤ d) {a0 : Int32} {a1 : Int32} {a2 : Int32} {h : zH} {ro_ : Int32} {ho_ : zH} (hf : zx_Laws_joined sc a0 a1 a2 h = some (ro_, ho_)) : zq_wm sc d 54 [.int a0, .int a1, .int a2] h (some (.int ro_), ho_) := by
  unfold zx_Laws_joined at hf
  show zq_wp sc d 54 0 [some (.int a0), some (.int a1), some (.int a2)] [] h _
  refine zq_wg 1 (pc' := 1) (lv' := [some (.int a0), some (.int a1), some (.int a2)]) (st' := [.int a0]) (h' := h) rfl ?_
  by_cases b1 : a0 = (-7 : Int32)
  · have hf := zo_t hf b1
    refine zr_ts (t := 78) rfl (by rw [b1]; rfl) ?_
    refine zq_wg 1 (pc' := 79) (lv' := [some (.int a0), some (.int a1), some (.int a2)]) (st' := [.int a1]) (h' := h) rfl ?_
    refine zr_if (a1 = 0) 90 82 (st' := []) rfl rfl (fun b2 => ?_) (fun b2 => ?_)
    · have hf := zo_t hf b2
      refine zq_wg 1 (pc' := 91) (lv' := [some (.int a0), some (.int a1), some (.int a2)]) (st' := [.int (0 : Int32)]) (h' := h) rfl ?_
      exact zr_ri rfl rfl rfl hf
    · have hf := zo_f hf b2
      refine zq_wg 1 (pc' := 83) (lv' := [some (.int a0), some (.int a1), some (.int a2)]) (st' := [.int a2]) (h' := h) rfl ?_
      refine zr_if (a2 = 0) 90 86 (st' := []) rfl rfl (fun b3 => ?_) (fun b3 => ?_)
      · have hf := zo_t hf b3
        refine zq_wg 1 (pc' := 91) (lv' := [some (.int a0), some (.int a1), some (.int a2)]) (st' := [.int (0 : Int32)]) (h' := h) rfl ?_
        exact zr_ri rfl rfl rfl hf
      · have hf := zo_f hf b3
        refine zq_wg 2 (pc' := 91) (lv' := [some (.int a0), some (.int a1), some (.int a2)]) (st' := [.int (1 : Int32)]) (h' := h) rfl ?_
        exact zr_ri rfl rfl rfl hf
  have hf := zo_f hf b1
  by_cases b4 : a0 = (-6 : Int32)
  · have hf := zo_t hf b4
    refine zr_ts (t := 92) rfl (by rw [b4]; rfl) ?_
    refine zq_wg 1 (pc' := 93) (lv' := [some (.int a0), some (.int a1), some (.int a2)]) (st' := [.int a1]) (h' := h) rfl ?_
    obtain ⟨j100_5, hjj100_5, hf⟩ := zo_lj hf
    have kj100_5 : ∀  (h5 : zH), j100_5 h5 = some (ro_, ho_) → zq_wp sc d 54 100 [none, none, none] [] h5 (some (.int ro_), ho_) := by
      intro h5 hf
      rw [hjj100_5] at hf
      refine zq_wg 2 (pc' := 105) (lv' := [none, none, none]) (st' := [.int (1 : Int32)]) (h' := h5) rfl ?_
      exact zr_ri rfl rfl rfl hf
    refine zr_if (a1 = 0) 96 100 (st' := []) rfl rfl (fun b6 => ?_) (fun b6 => ?_)
    · have hf := zo_t hf b6
      refine zq_wg 1 (pc' := 97) (lv' := [some (.int a0), some (.int a1), some (.int a2)]) (st' := [.int a2]) (h' := h) rfl ?_
      refine zr_if (a2 = 0) 104 100 (st' := []) rfl rfl (fun b7 => ?_) (fun b7 => ?_)
      · have hf := zo_t hf b7
        refine zq_wg 1 (pc' := 105) (lv' := [some (.int a0), some (.int a1), some (.int a2)]) (st' := [.int (0 : Int32)]) (h' := h) rfl ?_
        exact zr_ri rfl rfl rfl hf
      · have hf := zo_f hf b7
        refine zq_fg [none, none, none] (zq_lvle_n (zq_lvle_n (zq_lvle_n zq_lvle_nil))) ?_
        exact kj100_5  h hf
    · have hf := zo_f hf b6
      refine zq_fg [none, none, none] (zq_lvle_n (zq_lvle_n (zq_lvle_n zq_lvle_nil))) ?_
      exact kj100_5  h hf
  have hf := zo_f hf b4
  by_cases b8 : a0 = (-5 : Int32)
  · have hf := zo_t hf b8
    refine zr_ts (t := 67) rfl (by rw [b8]; rfl) ?_
    refine zq_wg 2 (pc' := 69) (lv' := [some (.int a0), some (.int a1), some (.int a2)]) (st' := [.int a2, .int a1]) (h' := h) rfl ?_
    refine zr_if (a1 = a2) 72 76 (st' := []) rfl rfl (fun b9 => ?_) (fun b9 => ?_)
    · have hf := zo_t hf b9
      refine zq_wg 2 (pc' := 77) (lv' := [some (.int a0), some (.int a1), some (.int a2)]) (st' := [.int (1 : Int32)]) (h' := h) rfl ?_
      exact zr_ri rfl rfl rfl hf
    · have hf := zo_f hf b9
      refine zq_wg 1 (pc' := 77) (lv' := [some (.int a0), some (.int a1), some (.int a2)]) (st' := [.int (0 : Int32)]) (h' := h) rfl ?_
      exact zr_ri rfl rfl rfl hf
  have hf := zo_f hf b8
  by_cases b10 : a0 = (-4 : Int32)
  · have hf := zo_t hf b10
    refine zr_ts (t := 56) rfl (by rw [b10]; rfl) ?_
    refine zq_wg 2 (pc' := 58) (lv' := [some (.int a0), some (.int a1), some (.int a2)]) (st' := [.int a2, .int a1]) (h' := h) rfl ?_
    refine zr_if (a2 ≤ a1) 65 61 (st' := []) rfl rfl (fun b11 => ?_) (fun b11 => ?_)
    · have hf := zo_t hf b11
      refine zq_wg 1 (pc' := 66) (lv' := [some (.int a0), some (.int a1), some (.int a2)]) (st' := [.int (0 : Int32)]) (h' := h) rfl ?_
      exact zr_ri rfl rfl rfl hf
    · have hf := zo_f hf b11
      refine zq_wg 2 (pc' := 66) (lv' := [some (.int a0), some (.int a1), some (.int a2)]) (st' := [.int (1 : Int32)]) (h' := h) rfl ?_
      exact zr_ri rfl rfl rfl hf
  have hf := zo_f hf b10
  by_cases b12 : a0 = (-3 : Int32)
  · have hf := zo_t hf b12
    refine zr_ts (t := 52) rfl (by rw [b12]; rfl) ?_
    refine zq_wg 3 (pc' := 55) (lv' := [some (.int a0), some (.int a1), some (.int a2)]) (st' := [.int (a1 * a2)]) (h' := h) rfl ?_
    exact zr_ri rfl rfl rfl hf
  have hf := zo_f hf b12
  by_cases b13 : a0 = (-2 : Int32)
  · have hf := zo_t hf b13
    refine zr_ts (t := 48) rfl (by rw [b13]; rfl) ?_
    refine zq_wg 3 (pc' := 51) (lv' := [some (.int a0), some (.int a1), some (.int a2)]) (st' := [.int (a1 - a2)]) (h' := h) rfl ?_
    exact zr_ri rfl rfl rfl hf
  have hf := zo_f hf b13
  by_cases b14 : a0 = (-1 : Int32)
  · have hf := zo_t hf b14
    refine zr_ts (t := 44) rfl (by rw [b14]; rfl) ?_
    refine zq_wg 3 (pc' := 47) (lv' := [some (.int a0), some (.int a1), some (.int a2)]) (st' := [.int (a1 + a2)]) (h' := h) rfl ?_
    exact zr_ri rfl rfl rfl hf
  have hf := zo_f hf b14
  refine zr_ts (t := 92) rfl (by unfold zo_ts; rw [if_pos (by have eb1 := zo_ne b1 (z := -7) (by decide); have eb4 := zo_ne b4 (z := -6) (by decide); have eb8 := zo_ne b8 (z := -5) (by decide); have eb10 := zo_ne b10 (z := -4) (by decide); have eb12 := zo_ne b12 (z := -3) (by decide); have eb13 := zo_ne b13 (z := -2) (by decide); have eb14 := zo_ne b14 (z := -1) (by decide); omega)]; rfl) ?_
  refine zq_wg 1 (pc' := 93) (lv' := [some (.int a0), some (.int a1), some (.int a2)]) (st' := [.int a1]) (h' := h) rfl ?_
  obtain ⟨j100_15, hjj100_15, hf⟩ := zo_lj hf
  have kj100_15 : ∀  (h15 : zH), j100_15 h15 = some (ro_, ho_) → zq_wp sc d 54 100 [none, none, none] [] h15 (some (.int ro_), ho_) := by
    intro h15 hf
    rw [hjj100_15] at hf
    refine zq_wg 2 (pc' := 105) (lv' := [none, none, none]) (st' := [.int (1 : Int32)]) (h' := h15) rfl ?_
    exact zr_ri rfl rfl rfl hf
  refine zr_if (a1 = 0) 96 100 (st' := []) rfl rfl (fun b16 => ?_) (fun b16 => ?_)
  · have hf := zo_t hf b16
    refine zq_wg 1 (pc' := 97) (lv' := [some (.int a0), some (.int a1), some (.int a2)]) (st' := [.int a2]) (h' := h) rfl ?_
    refine zr_if (a2 = 0) 104 100 (st' := []) rfl rfl (fun b17 => ?_) (fun b17 => ?_)
    · have hf := zo_t hf b17
      refine zq_wg 1 (pc' := 105) (lv' := [some (.int a0), some (.int a1), some (.int a2)]) (st' := [.int (0 : Int32)]) (h' := h) rfl ?_
      exact zr_ri rfl rfl rfl hf
    · have hf := zo_f hf b17
      refine zq_fg [none, none, none] (zq_lvle_n (zq_lvle_n (zq_lvle_n zq_lvle_nil))) ?_
      exact kj100_15  h hf
  · have hf := zo_f hf b16
    refine zq_fg [none, none, none] (zq_lvle_n (zq_lvle_n (zq_lvle_n zq_lvle_nil))) ?_
    exact kj100_15  h hf
set_option maxRecDepth 4000 in
def zm_lay_l3 (sc : zX) : Nat → Nat → Int64 → Int32 → zH → Option (Unit × zH)
  | 0, _, _, _, _ => none
  | n + 1, y1, y2, y3, h4 => if y3 < 0 then (some ((), h4)) else (zo_l (fun (x6 : Nat) (x7 : Int64) (x8 : Int32) (h9 : zH) => zm_lay_l3 sc n x6 x7 (x8 + (-8 : Int32)) h9 ) (fun j69_9 => zo_l (fun (x10 : Nat) (x11 : Int64) (x12 : Int32) (x13 : Int32) (h14 : zH) => zo_b (zo_gI h14 10 x10 2) (fun v15 => if (1000 : Int32) ≤ v15 then (j69_9 x10 x11 x12 h14) else (zo_b (zo_gR h14 10 x10 1) (fun v18 => zo_b (zo_gI h14 10 x10 2) (fun v20 => zo_b (zq_wrX 1 h14 v18 v20 x13) (fun h22 => zo_b (zo_gI h22 10 x10 2) (fun v24 => zo_b (zo_pI h22 10 x10 2 (v24 + (1 : Int32))) (fun h26 => j69_9 x10 x11 x12 h26)))))))) (fun j38_14 => if ((y2 >>> (y3.toInt64 &&& 63)).toInt32 &&& (255 : Int32)) = (10 : Int32) then (j38_14 y1 y2 y3 ((y2 >>> (y3.toInt64 &&& 63)).toInt32 &&& (255 : Int32)) h4) else (if ((y2 >>> (y3.toInt64 &&& 63)).toInt32 &&& (255 : Int32)) < (32 : Int32) then (j69_9 y1 y2 y3 h4) else (if (126 : Int32) < ((y2 >>> (y3.toInt64 &&& 63)).toInt32 &&& (255 : Int32)) then (j69_9 y1 y2 y3 h4) else (j38_14 y1 y2 y3 ((y2 >>> (y3.toInt64 &&& 63)).toInt32 &&& (255 : Int32)) h4))))))
set_option maxRecDepth 4000 in
def zm_lay (sc : zX) (a0 : Nat) (a1 : Int64) (h : zH) : Option (Unit × zH) := zm_lay_l3 sc zo_F a0 a1 (56 : Int32) h 
set_option maxRecDepth 4000 in
theorem zm_lay_l3_ok (sc : zX) (d : Nat) : ∀ (n : Nat) (y1 : Nat) (y2 : Int64) (y3 : Int32) (h4 : zH) (ro_ : Unit) (ho_ : zH),  zm_lay_l3 sc n y1 y2 y3 h4  = some (ro_, ho_) → zq_wp sc d 146 3 [some (.ref y1), some (.long y2), none, some (.int y3), none] [] h4 (none, ho_) := by
  intro n
  induction n with
  | zero => intro y1 y2 y3 h4 ro_ ho_ hf; cases hf
  | succ n ih =>
    intro y1 y2 y3 h4 ro_ ho_ hf
    refine zq_wg 1 (pc' := 4) (lv' := [some (.ref y1), some (.long y2), none, some (.int y3), none]) (st' := [.int y3]) (h' := h4) rfl ?_
    refine zr_if (y3 < 0) 75 7 (st' := []) rfl rfl (fun b5 => ?_) (fun b5 => ?_)
    · have hf := zo_t hf b5
      exact zr_rv rfl rfl hf
    · have hf := zo_f hf b5
      refine zq_wg 9 (pc' := 21) (lv' := [some (.ref y1), some (.long y2), none, some (.int y3), some (.int ((y2 >>> (y3.toInt64 &&& 63)).toInt32 &&& (255 : Int32)))]) (st' := [.int (10 : Int32), .int ((y2 >>> (y3.toInt64 &&& 63)).toInt32 &&& (255 : Int32))]) (h' := h4) rfl ?_
      obtain ⟨j69_9, hjj69_9, hf⟩ := zo_lj hf
      have kj69_9 : ∀ (x6 : Nat) (x7 : Int64) (x8 : Int32) (h9 : zH), j69_9 x6 x7 x8 h9 = some (ro_, ho_) → zq_wp sc d 146 69 [some (.ref x6), some (.long x7), none, some (.int x8), none] [] h9 (none, ho_) := by
        intro x6 x7 x8 h9 hf
        rw [hjj69_9] at hf
        refine zq_wg 2 (pc' := 3) (lv' := [some (.ref x6), some (.long x7), none, some (.int (x8 + (-8 : Int32))), none]) (st' := []) (h' := h9) rfl ?_
        exact ih x6 x7 (x8 + (-8 : Int32)) h9 _ _ hf
      obtain ⟨j38_14, hjj38_14, hf⟩ := zo_lj hf
      have kj38_14 : ∀ (x10 : Nat) (x11 : Int64) (x12 : Int32) (x13 : Int32) (h14 : zH), j38_14 x10 x11 x12 x13 h14 = some (ro_, ho_) → zq_wp sc d 146 38 [some (.ref x10), some (.long x11), none, some (.int x12), some (.int x13)] [] h14 (none, ho_) := by
        intro x10 x11 x12 x13 h14 hf
        rw [hjj38_14] at hf
        refine zq_wg 1 (pc' := 39) (lv' := [some (.ref x10), some (.long x11), none, some (.int x12), some (.int x13)]) (st' := [.ref x10]) (h' := h14) rfl ?_
        obtain ⟨v15, e16, hf⟩ := zo_b_s hf
        refine zr_gI rfl rfl (by decide) rfl e16 ?_
        refine zq_wg 1 (pc' := 45) (lv' := [some (.ref x10), some (.long x11), none, some (.int x12), some (.int x13)]) (st' := [.int (1000 : Int32), .int v15]) (h' := h14) rfl ?_
        refine zr_if ((1000 : Int32) ≤ v15) 69 48 (st' := []) rfl rfl (fun b17 => ?_) (fun b17 => ?_)
        · have hf := zo_t hf b17
          refine zq_fg [some (.ref x10), some (.long x11), none, some (.int x12), none] (zq_lvle_s (zq_lvle_s (zq_lvle_s (zq_lvle_s (zq_lvle_n zq_lvle_nil))))) ?_
          exact kj69_9 x10 x11 x12 h14 hf
        · have hf := zo_f hf b17
          refine zq_wg 1 (pc' := 49) (lv' := [some (.ref x10), some (.long x11), none, some (.int x12), some (.int x13)]) (st' := [.ref x10]) (h' := h14) rfl ?_
          obtain ⟨v18, e19, hf⟩ := zo_b_s hf
          refine zr_gR rfl rfl (by decide) rfl e19 ?_
          refine zq_wg 1 (pc' := 53) (lv' := [some (.ref x10), some (.long x11), none, some (.int x12), some (.int x13)]) (st' := [.ref x10, .ref v18]) (h' := h14) rfl ?_
          obtain ⟨v20, e21, hf⟩ := zo_b_s hf
          refine zr_gI rfl rfl (by decide) rfl e21 ?_
          refine zq_wg 1 (pc' := 58) (lv' := [some (.ref x10), some (.long x11), none, some (.int x12), some (.int x13)]) (st' := [.int x13, .int v20, .ref v18]) (h' := h14) rfl ?_
          obtain ⟨h22, e23, hf⟩ := zo_b_s hf
          refine zr_iast rfl e23 ?_
          refine zq_wg 2 (pc' := 61) (lv' := [some (.ref x10), some (.long x11), none, some (.int x12), some (.int x13)]) (st' := [.ref x10, .ref x10]) (h' := h22) rfl ?_
          obtain ⟨v24, e25, hf⟩ := zo_b_s hf
          refine zr_gI rfl rfl (by decide) rfl e25 ?_
          refine zq_wg 2 (pc' := 66) (lv' := [some (.ref x10), some (.long x11), none, some (.int x12), some (.int x13)]) (st' := [.int (v24 + (1 : Int32)), .ref x10]) (h' := h22) rfl ?_
          obtain ⟨h26, e27, hf⟩ := zo_b_s hf
          refine zr_pI rfl rfl (by decide) rfl rfl e27 ?_
          refine zq_fg [some (.ref x10), some (.long x11), none, some (.int x12), none] (zq_lvle_s (zq_lvle_s (zq_lvle_s (zq_lvle_s (zq_lvle_n zq_lvle_nil))))) ?_
          exact kj69_9 x10 x11 x12 h26 hf
      refine zr_if (((y2 >>> (y3.toInt64 &&& 63)).toInt32 &&& (255 : Int32)) = (10 : Int32)) 38 24 (st' := []) rfl rfl (fun b28 => ?_) (fun b28 => ?_)
      · have hf := zo_t hf b28
        exact kj38_14 y1 y2 y3 ((y2 >>> (y3.toInt64 &&& 63)).toInt32 &&& (255 : Int32)) h4 hf
      · have hf := zo_f hf b28
        refine zq_wg 2 (pc' := 28) (lv' := [some (.ref y1), some (.long y2), none, some (.int y3), some (.int ((y2 >>> (y3.toInt64 &&& 63)).toInt32 &&& (255 : Int32)))]) (st' := [.int (32 : Int32), .int ((y2 >>> (y3.toInt64 &&& 63)).toInt32 &&& (255 : Int32))]) (h' := h4) rfl ?_
        refine zr_if (((y2 >>> (y3.toInt64 &&& 63)).toInt32 &&& (255 : Int32)) < (32 : Int32)) 69 31 (st' := []) rfl rfl (fun b29 => ?_) (fun b29 => ?_)
        · have hf := zo_t hf b29
          refine zq_fg [some (.ref y1), some (.long y2), none, some (.int y3), none] (zq_lvle_s (zq_lvle_s (zq_lvle_s (zq_lvle_s (zq_lvle_n zq_lvle_nil))))) ?_
          exact kj69_9 y1 y2 y3 h4 hf
        · have hf := zo_f hf b29
          refine zq_wg 2 (pc' := 35) (lv' := [some (.ref y1), some (.long y2), none, some (.int y3), some (.int ((y2 >>> (y3.toInt64 &&& 63)).toInt32 &&& (255 : Int32)))]) (st' := [.int (126 : Int32), .int ((y2 >>> (y3.toInt64 &&& 63)).toInt32 &&& (255 : Int32))]) (h' := h4) rfl ?_
          refine zr_if ((126 : Int32) < ((y2 >>> (y3.toInt64 &&& 63)).toInt32 &&& (255 : Int32))) 69 38 (st' := []) rfl rfl (fun b30 => ?_) (fun b30 => ?_)
          · have hf := zo_t hf b30
            refine zq_fg [some (.ref y1), some (.long y2), none, some (.int y3), none] (zq_lvle_s (zq_lvle_s (zq_lvle_s (zq_lvle_s (zq_lvle_n zq_lvle_nil))))) ?_
            exact kj69_9 y1 y2 y3 h4 hf
          · have hf := zo_f hf b30
            exact kj38_14 y1 y2 y3 ((y2 >>> (y3.toInt64 &&& 63)).toInt32 &&& (255 : Int32)) h4 hf
set_option maxRecDepth 4000 in
theorem zm_lay_ok (sc : zX) (d : Nat) (hd : 0 ≤ d) {a0 : Nat} {a1 : Int64} {h : zH} {ro_ : Unit} {ho_ : zH} (hf : zm_lay sc a0 a1 h = some (ro_, ho_)) : zq_wm sc d 146 [.ref a0, .long a1] h (none, ho_) := by
  unfold zm_lay at hf
  show zq_wp sc d 146 0 [some (.ref a0), some (.long a1), none, none, none] [] h _
  refine zq_wg 2 (pc' := 3) (lv' := [some (.ref a0), some (.long a1), none, some (.int (56 : Int32)), none]) (st' := []) (h' := h) rfl ?_
  refine zm_lay_l3_ok sc d zo_F a0 a1 (56 : Int32) h _ _ hf
set_option maxRecDepth 4000 in
def zm_wrong (sc : zX) (a0 : Nat) (a1 : Int32) (h : zH) : Option (Unit × zH) := zo_b (zo_gI h 10 a0 8) (fun v1 => if v1 = 0 then (zo_b (zo_gR h 10 a0 5) (fun v4 => zo_b (zo_gI h 10 a0 7) (fun v6 => zo_b (zq_rdI sc h v4 v6) (fun v8 => zo_b (zo_pI h 10 a0 8 (a1 + ((16 : Int32) * v8))) (fun h10 => some ((), h10)))))) else (some ((), h)))
set_option maxRecDepth 4000 in
theorem zm_wrong_ok (sc : zX) (d : Nat) (hd : 0 ≤ d) {a0 : Nat} {a1 : Int32} {h : zH} {ro_ : Unit} {ho_ : zH} (hf : zm_wrong sc a0 a1 h = some (ro_, ho_)) : zq_wm sc d 162 [.ref a0, .int a1] h (none, ho_) := by
  unfold zm_wrong at hf
  show zq_wp sc d 162 0 [some (.ref a0), some (.int a1)] [] h _
  refine zq_wg 1 (pc' := 1) (lv' := [some (.ref a0), some (.int a1)]) (st' := [.ref a0]) (h' := h) rfl ?_
  obtain ⟨v1, e2, hf⟩ := zo_b_s hf
  refine zr_gI rfl rfl (by decide) rfl e2 ?_
  refine zr_if (v1 = 0) 7 25 (st' := []) rfl rfl (fun b3 => ?_) (fun b3 => ?_)
  · have hf := zo_t hf b3
    refine zq_wg 4 (pc' := 12) (lv' := [some (.ref a0), some (.int a1)]) (st' := [.ref a0, .int (16 : Int32), .int a1, .ref a0]) (h' := h) rfl ?_
    obtain ⟨v4, e5, hf⟩ := zo_b_s hf
    refine zr_gR rfl rfl (by decide) rfl e5 ?_
    refine zq_wg 1 (pc' := 16) (lv' := [some (.ref a0), some (.int a1)]) (st' := [.ref a0, .ref v4, .int (16 : Int32), .int a1, .ref a0]) (h' := h) rfl ?_
    obtain ⟨v6, e7, hf⟩ := zo_b_s hf
    refine zr_gI rfl rfl (by decide) rfl e7 ?_
    obtain ⟨v8, e9, hf⟩ := zo_b_s hf
    refine zr_iald rfl e9 ?_
    refine zq_wg 2 (pc' := 22) (lv' := [some (.ref a0), some (.int a1)]) (st' := [.int (a1 + ((16 : Int32) * v8)), .ref a0]) (h' := h) rfl ?_
    obtain ⟨h10, e11, hf⟩ := zo_b_s hf
    refine zr_pI rfl rfl (by decide) rfl rfl e11 ?_
    exact zr_rv rfl rfl hf
  · have hf := zo_f hf b3
    exact zr_rv rfl rfl hf
end
