/-! the law's own rests: what the class's answers goes into the row, what it throws is caught -/
def zw_ly : MethodName := ⟨"RaffleArmyLaw", "rests", "(LRaffleArmy;III[J)I"⟩
def zw_lcw : Cond := .codeWith zw_ly method_3_code 6 (some .int) [(0, 12, 15, 13)]
def zw_lr : Room := { frames := 20, cells := 1, slots := 6, locals := 800 }
theorem zw_ld : (decode method_3_code 0 = .ok (.aload 4, 2) ∧ decode method_3_code 2 = .ok (.iconst 0, 1) ∧ decode method_3_code 3 = .ok (.aload_n 0, 1) ∧ decode method_3_code 4 = .ok (.iload_n 1, 1) ∧ decode method_3_code 5 = .ok (.iload_n 2, 1) ∧ decode method_3_code 6 = .ok (.iload_n 3, 1) ∧ decode method_3_code 7 = .ok (.invokevirtual 7, 3)) ∧ (decode method_3_code 10 = .ok (.i2l, 1) ∧ decode method_3_code 11 = .ok (.lastore, 1) ∧ decode method_3_code 12 = .ok (.goto 7, 3) ∧ decode method_3_code 15 = .ok (.astore 5, 2) ∧ decode method_3_code 17 = .ok (.iconst 1, 1) ∧ decode method_3_code 18 = .ok (.ireturn, 1) ∧ decode method_3_code 19 = .ok (.iconst 0, 1) ∧ decode method_3_code 20 = .ok (.ireturn, 1)) := by decide +kernel
theorem zw_ltab : zw_lcw ∈ zq_WG ∧ (Cond.methodLink "RaffleArmyLaw" 7 zq_m142.1) ∈ zq_WG ∧ (Cond.initialized "RaffleArmyLaw") ∈ zq_WG ∧ (Cond.methodLink "RaffleArmyLaw" 141 zw_ly) ∈ zq_WG ∧ (Cond.static zw_ly) ∈ zq_WG := by decide +kernel
theorem zw_ofWH {l : Launch} {y : MethodName} {ws ws' : List Cond} {rm : Room} {Pc : Array Value → State → Prop} {Qc : Array Value → State → Outcome → State → Prop} {mc ms : Nat} {free : Addr → Prop} {cc : ByteArray} {maxL : Nat} {ret : Option FieldType} {hh : List (Nat × Nat × Nat × Nat)}
    (hy : plainName y.cls = true) (hw : ws = Cond.codeWith y cc maxL ret hh :: ws')
    (body : ∀ p e s m args below meth c s₁, BodyLoose p l y (headSpec ws rm) cc maxL ret e s m args below meth c s₁ → c.maxLocals = maxL → Pc args s →
      W p l e (headSpec ws rm).room s m args below meth c s.heap [] 0 0 (MQ below Qc args s mc ms free) (entryFrame m args maxL)) : Met l y ws rm Pc Qc mc ms free := by
  refine MetFree.of_bodyS (code := cc) (maxLocals := maxL) (ret := ret) hy ?_ ?_
  · intro args s m h hn
    obtain ⟨m9, meth, c, hn9, h1, h2, h3, h4, -, h5, h6, -⟩ := Cond.codeWith_spec (atoms_spec (ws := ws) h _ (by rw [hw]; exact List.mem_cons_self))
    cases hn.symm.trans hn9
    exact ⟨meth, c, h1, h2, h3, h4, h5, h6⟩
  · intro p e s m args below meth c s₁ B hml hP _
    have hh0 : s₁.heap = s.heap := by rw [B.state]; rfl
    obtain ⟨t, a1, o, b1, b2, b3⟩ := body p e s m args below meth c s₁ B hml hP s₁ hh0 (Stand.of_body B)
    exact ⟨t, o, a1, b1, b2, b3⟩
section ZG
variable {dC : Nat → ClassId} {dI : Nat → Nat → Nat} {cA : Nat → ClassId} {sz : Nat} {ad : Nat → Nat} {sc : zX}
variable {p : Program} {l : Launch} {e : Env} {R : Room} {s : State} {m : MethodId} {args : Array Value} {below : List Frame} {meth : Method} {c : Code} {H : Heap} {locs : List Loc} {cells slots : Nat} {Q : State → Prop}
variable {cc : ByteArray} {ls : Array Slot} {nL pc o len : Nat} {ini : Bool} {ins : Instr} {lv : List (Option Value)} {st : List Value} {h : zH}
theorem zw_s1 {pc' : Nat} {lv' : List (Option Value)} {st' : List Value} {h' : zH} (cx : zq_cx dC dI cA sz ad sc p s m args meth c cc nL o ini) (hd : decode cc pc = .ok (ins, len)) (hn : zq_lnk ins len = true) (hg : zq_stp sc false 0 o ini ins pc lv st h = some (pc', lv', st', h')) (hl : zq_lr sz ad ls nL lv) (hP : va_P (dC, dI) zq_cl (zq_ws cA sz ad h) H) (hS : va_S (fun q => sz ≤ q) s.heap H locs) (hc : cells ≤ R.cells) (hs : slots ≤ R.slots)
    (kk : ∀ H' locs' ls', zq_lr sz ad ls' nL lv' → va_P (dC, dI) zq_cl (zq_ws cA sz ad h') H' → va_S (fun q => sz ≤ q) s.heap H' locs' → W p l e R s m args below meth c H' locs' cells slots Q (F0 m pc' ls' (st'.map (zq_tr sz ad)))) : W p l e R s m args below meth c H locs cells slots Q (F0 m pc ls (st.map (zq_tr sz ad))) := by
  have hk : h'.1 = h.1 := zq_stp_k hg
  have hk2 : zq_ns h' = zq_ns h := by unfold zq_ns; rw [hk]
  refine zq_stp_ok0 (al := false) cx hd hn hg hl hP hS (fun q => by cases q) ?_ ?_ (fun H' locs' ls' a1 a2 a3 => ?_)
  · dsimp only; rw [hk, Nat.sub_self]; exact hc
  · dsimp only; rw [hk2, Nat.sub_self]; exact hs
  · dsimp only
    rw [hk, hk2, Nat.sub_self, Nat.sub_self]
    exact kk H' locs' ls' a1 a2 a3
end ZG
section ZW
variable {dC : Nat → ClassId} {dI : Nat → Nat → Nat} {cA : Nat → ClassId} {sz : Nat} {ad : Nat → Nat} {sc : zX} {l : Launch}
/-- what the store is afterwards, and what is answered -/
def zw_lp (out : Nat) (ro : Option Int32) (h1 : zH) (k : Int32) (h2 : zH) : Prop := match ro with
  | some r => k = 0 ∧ zq_wrL h1 out 0 r.toInt64 = some h2
  | none => k = 1 ∧ h2 = h1
theorem zw_lrests (hl : l.stackTraces = false) {x out : Nat} {a b u3 : Int32} {h h1 h2 : zH} {ro : Option Int32} {k : Int32} (hf : zx_rests sc x a b u3 h = some (ro, h1)) (hx9 : zq_kd h x = some (0, 9)) (hp : zw_lp out ro h1 k h2) : Met l zw_ly (zw_lcw :: zq_WG) zw_lr (zw_Pr dC dI cA sz ad sc [.ref x, .int a, .int b, .int u3, .ref out] h)
    (zq_Qc dC dI cA sz ad (some (.int k)) h2) 1 6 (fun q => sz ≤ q) := by
  obtain ⟨hcw, pz, hm⟩ := zq_mok zw_m142
  obtain ⟨f1, f2, f3, f4, f5, f6, f7, f8, f9, f10, f11⟩ := zq_mfacts hm
  obtain ⟨⟨d0, d2, d3, d4, d5, d6, d7⟩, d10, d11, d12, d15, d17, d18, d19, d20⟩ := zw_ld
  obtain ⟨t1, t2, t3, t4, t5⟩ := zw_ltab
  refine zw_ofWH (cc := method_3_code) (maxL := 6) (ret := some .int) (hh := [(0, 12, 15, 13)]) (ws' := zq_WG) (by decide) rfl ?_
  intro p e s m args below meth c s₁ B hml hv
  obtain ⟨rfl, henv, hxt, hP⟩ := hv
  obtain ⟨as, has⟩ : ∃ as, as = ([Value.ref x, .int a, .int b, .int u3, .ref out].map (zq_tr sz ad)).toArray := ⟨_, rfl⟩
  have hts := atoms_spec (ws := zw_lcw :: zq_WG) B.pre
  have hts' : ∀ w ∈ zq_WG, w.before ([Value.ref x, .int a, .int b, .int u3, .ref out].map (zq_tr sz ad)).toArray s = true := fun w hw => hts w (List.mem_cons_of_mem _ hw)
  have hown : s.vm.findClass "RaffleArmyLaw" = some m.cls := findClass_of_methodNamed B.named
  have htab : c.exceptionTable.toList = tableOf [(0, 12, 15, 13)] := vx_table (x := zw_ly) B (hts _ List.mem_cons_self)
  have cx : zq_cx dC dI cA sz ad sc p s m ([Value.ref x, .int a, .int b, .int u3, .ref out].map (zq_tr sz ad)).toArray meth c method_3_code 6 11 false := ⟨B.exec, B.bytes, hml, hown, hts', henv, fun hi => (by cases hi), by decide⟩
  rw [lg_entry_eq]
  obtain ⟨-, hlr⟩ := zq_lr_ent sz ad [Value.ref x, .int a, .int b, .int u3, .ref out] 6 (Nat.le_of_ble_eq_true rfl)
  have c0 : 0 ≤ (headSpec (zw_lcw :: zq_WG) zw_lr).room.cells := Nat.zero_le _
  have s0 : 0 ≤ (headSpec (zw_lcw :: zq_WG) zw_lr).room.slots := Nat.zero_le _
  have hlr : zq_lr sz ad _ 6 [some (.ref x), some (.int a), some (.int b), some (.int u3), some (.ref out), none] := hlr
  refine zw_s1 (st := []) (pc' := 2) (lv' := [some (.ref x), some (.int a), some (.int b), some (.int u3), some (.ref out), none]) (st' := [.ref out]) (h' := h) cx d0 rfl rfl hlr hP va_S.rf c0 s0 (fun H1 locs1 ls1 hlr hP hS => ?_)
  refine zw_s1 (pc' := 3) (lv' := [some (.ref x), some (.int a), some (.int b), some (.int u3), some (.ref out), none]) (st' := [.int 0, .ref out]) (h' := h) cx d2 rfl rfl hlr hP hS c0 s0 (fun H1 locs1 ls1 hlr hP hS => ?_)
  refine zw_s1 (pc' := 4) (lv' := [some (.ref x), some (.int a), some (.int b), some (.int u3), some (.ref out), none]) (st' := [.ref x, .int 0, .ref out]) (h' := h) cx d3 rfl rfl hlr hP hS c0 s0 (fun H1 locs1 ls1 hlr hP hS => ?_)
  refine zw_s1 (pc' := 5) (lv' := [some (.ref x), some (.int a), some (.int b), some (.int u3), some (.ref out), none]) (st' := [.int a, .ref x, .int 0, .ref out]) (h' := h) cx d4 rfl rfl hlr hP hS c0 s0 (fun H1 locs1 ls1 hlr hP hS => ?_)
  refine zw_s1 (pc' := 6) (lv' := [some (.ref x), some (.int a), some (.int b), some (.int u3), some (.ref out), none]) (st' := [.int b, .int a, .ref x, .int 0, .ref out]) (h' := h) cx d5 rfl rfl hlr hP hS c0 s0 (fun H1 locs1 ls1 hlr hP hS => ?_)
  refine zw_s1 (pc' := 7) (lv' := [some (.ref x), some (.int a), some (.int b), some (.int u3), some (.ref out), none]) (st' := [.int u3, .int b, .int a, .ref x, .int 0, .ref out]) (h' := h) cx d6 rfl rfl hlr hP hS c0 s0 (fun H1 locs1 ls1 hlr hP hS => ?_)
  obtain ⟨j, rfl, hj⟩ := zq_kd_at hx9
  have hrc := va_recv henv.1 hP (zq_cl_get (ci := 9) (by decide)) (zq_ws_get hj)
  dsimp only at hrc
  have hadr : zq_adr sz ad (64 + j) = sz + j := zq_adr_new sz ad j
  have hB : CallB (headSpec (zw_lcw :: zq_WG) zw_lr).room s _ "RaffleArmyLaw" 7 zq_m142.1 zq_m142.2.1 8 (some .int) (zq_cw zq_m142 :: zq_WG) zw_rr 1 6 3 := callB_of 3 hts' (zq_good hcw) rfl rfl rfl (hts' _ f4) (hts' _ t2) ⟨f2.1, f2.2, f5⟩ ⟨by decide, by decide⟩
  have hpc : ∀ U : State, U.heap = H1 → s.WarmedH U.vm → zw_Pr dC dI cA sz ad sc [.ref (64 + j), .int a, .int b, .int u3] h (Value.ref (sz + j) :: [Value.int a, .int b, .int u3]).toArray U := by
    intro U hU hWm
    refine ⟨by show _ = (Value.ref (zq_adr sz ad (64 + j)) :: _).toArray; rw [hadr]; rfl, ?_, ?_, by rw [hU]; exact hP⟩
    · exact henv.moved hWm (by rw [hU]; exact hS.1) (fun q g1 g2 => by rw [hU]; exact hS.2.1 q g1 g2)
    · exact hxt.moved hWm (fun q g1 g2 => by rw [hU]; exact hS.2.1 q g1 g2)
  have hstk : List.map (zq_tr sz ad) [.int u3, .int b, .int a, .ref (64 + j), .int 0, .ref out] = [Value.int a, .int b, .int u3].reverse ++ .ref (sz + j) :: List.map (zq_tr sz ad) [.int 0, .ref out] := by
    show Value.int u3 :: .int b :: .int a :: .ref (zq_adr sz ad (64 + j)) :: _ = _
    rw [hadr]
    rfl
  refine vx_calli (A0 := fun q => sz ≤ q) (vx_runV ⟨B.exec, B.bytes, hml, hown, hts'⟩ (zw_rests hl hf) ⟨hB, hts' _ (f7 (by decide)), hts' _ (f8 rfl)⟩ ⟨zw_blind, hrc, hpc⟩ rfl rfl hlr.1.1 hstk (lv_room (Nat.le_of_ble_eq_true rfl)) d7 ⟨by decide, by decide⟩) hS (fun q _ h => h) (fun q h => h) (fun q _ h => h) ?_ ?_
  · intro E ce q9 u t H2 locs2 ht hal hro hB2 hz hk hS2 hce hcv hcl
    obtain ⟨rfl, hP2⟩ := hB2
    rw [hro] at hp
    obtain ⟨rfl, rfl⟩ := hp
    rw [ht] at hP2
    refine vx_catch (own := "RaffleArmyLaw") (name := zw_nse) hown [] ⟨0, 12, 15, 13⟩ [] htab (fun z hz => nomatch hz) rfl (by decide) (hts' _ zw_two.2.2) (va_Nw.use rfl hxt.1.2.2.2) hce hcv hcl ?_
    refine lv_astore B.exec B.bytes d15 hlr.1 (by decide) rfl (fun ls2 h2 => ?_)
    refine lv_iconst (v := 1) B.exec B.bytes d17 (by decide) ?_
    exact W.zret (v := 1) B.exec B.bytes B.returns rfl (fun t ht _ => ⟨rfl, by rw [ht]; exact hP2, hS2.F ht⟩) hS2.2.2 d18 B.notSynchronized
  · intro r u t H2 locs2 ht hal hro hP2 hz hk hS2
    rw [hro] at hp
    obtain ⟨rfl, hw⟩ := hp
    rw [ht] at hP2
    refine lv_i2l (v := r.toInt64) B.exec B.bytes d10 rfl ?_
    have c1 : 0 + 1 ≤ (headSpec (zw_lcw :: zq_WG) zw_lr).room.cells := by decide
    have s1 : 0 + 6 ≤ (headSpec (zw_lcw :: zq_WG) zw_lr).room.slots := by decide
    refine zw_s1 (lv := [some (.ref (64 + j)), some (.int a), some (.int b), some (.int u3), some (.ref out), none]) (st := [.long r.toInt64, .int 0, .ref out]) (pc' := 12) (lv' := [some (.ref (64 + j)), some (.int a), some (.int b), some (.int u3), some (.ref out), none]) (st' := []) (h' := h2) cx d11 rfl (by show (zq_wrL h1 out 0 r.toInt64).map _ = _; rw [hw]; rfl) hlr hP2 hS2 c1 s1 (fun H1 locs1 ls1 hlr hP hS => ?_)
    refine zw_s1 (st := []) (pc' := 19) (lv' := [some (.ref (64 + j)), some (.int a), some (.int b), some (.int u3), some (.ref out), none]) (st' := []) (h' := h2) cx d12 rfl rfl hlr hP hS c1 s1 (fun H1 locs1 ls1 hlr hP hS => ?_)
    refine lv_iconst (v := 0) B.exec B.bytes d19 (by decide) ?_
    exact W.zret (v := 0) B.exec B.bytes B.returns rfl (fun t ht _ => ⟨rfl, by rw [ht]; exact hP, hS.F ht⟩) hS.2.2 d20 B.notSynchronized
end ZW
