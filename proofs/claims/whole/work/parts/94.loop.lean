/-! the law, from its entry to its end, out of what the small machine's law does -/
/-- once round -/
def zl_it (sc : zX) (i : Int32) (h h' : zH) : Prop := (∃ vs, zl_body sc i h = some ((0, vs), h')) ∨ ∃ (a b w : Int32) (h1 h2 h3 : zH) (ro : Option Int32) (k : Int32), zl_body sc i h = some ((3, [a, b, w]), h1) ∧ zx_rests sc 64 a b w h1 = some (ro, h2) ∧ zw_lp 243 ro h2 k h3 ∧ zl_bod2 sc i k h3 = some (0, h')
/-- so many times, then the end -/
def zl_ok (sc : zX) : Nat → Int32 → zH → Prop
  | 0, i, h => ∃ vs h', zl_body sc i h = some ((2, vs), h')
  | n + 1, i, h => ∃ h', zl_it sc i h h' ∧ zl_ok sc n (i + 7) h'
def lw_Q (_ : Array Value) (s : State) (o : Outcome) (t : State) : Prop := o = .returned (some (.int 1)) ∧ Framed s o t [] 601024 7293034
def lw_Z (below : List Frame) (a : Array Value) (s : State) : State → Prop := fun t => ∃ o, t.status = .running ∧ Ended t below o ∧ lw_Q a s o t
theorem lw_ret {p : Program} {l : Launch} {e : Env} {s : State} {m : MethodId} {below : List Frame} {meth : Method} {c : Code} {b : Nat} (hx : p.tables.exec = Jvm.exec) (hb : c.code = code) (hr : meth.sig.returnType = ret) (hlocks : meth.locks = false) {pc : Nat} {H : Heap} {ls : Array Slot} (hdg : decode code pc = .ok (.ireturn, 1)) : W p l e room_1 s m #[Value.ref b] below meth c H [] 601024 7293034 (lw_Z below #[Value.ref b] s) (F0 m pc ls [.int 1]) := by
  intro T hT X
  obtain ⟨fs, hret, hrun, hended, hW, hframe⟩ := X.leave (v := some (.int 1)) (hlocks := hlocks) (fun h => by rw [hr] at h; cases h)
  have hmeth' : T.vm.method? m = some meth := X.method'
  refine ⟨T.setFrames fs, ?_, .returned (some (.int 1)), hrun, hended, rfl, ⟨_, rfl⟩, hW, hframe⟩
  jvm_step X.here [X.here.top, hx, hb, hdg, hmeth', hr, ret, narrow_b1]
  (try refine ⟨rfl, ?_⟩); (try refine ⟨rfl, ?_⟩)
  first | (intro acts; rw [hret _ acts rfl rfl rfl]) | rw [hret _ _ rfl rfl rfl]
  exact Steps.refl _
theorem zw_fgt {sz : Nat} {ad : Nat → Nat} {ls : Array Slot} {i : Int32} {u v : Option Value} (h : zq_lr sz ad ls 7 [some (.ref 37), some (.ref 64), some (.ref 216), some (.ref 243), some (.int i), u, v]) : zq_lr sz ad ls 7 (zl_lv i) := by
  refine ⟨?_, rfl⟩
  cases u <;> cases v <;> exact lv_sub h.1 [0, 1, 2, 3, 4] rfl
theorem zw_wrLk {h h' : zH} {o : Nat} {i : Int32} {v : Int64} (e : zq_wrL h o i v = some h') : h'.1 = h.1 := by
  unfold zq_wrL at e
  split at e
  next n hk =>
    split at e
    · cases e
    · cases e; rfl
  next => cases e
section ZG
variable {dC : Nat → ClassId} {dI : Nat → Nat → Nat} {cA : Nat → ClassId} {sz : Nat} {ad : Nat → Nat} {sc : zX}
variable {p : Program} {l : Launch} {e : Env} {s : State} {m : MethodId} {b : Nat} {below : List Frame} {meth : Method} {c : Code}
theorem zw_loop (hl : l.stackTraces = false) (hsz : sz = s.heap.size) (cx : zq_cx dC dI cA sz ad sc p s m #[Value.ref b] meth c code 7 11 false) (hxt : zw_xt sz s s.heap) (hr : meth.sig.returnType = ret) (hlocks : meth.locks = false) : ∀ (n : Nat) (i : Int32) (h : zH) (H : Heap) (locs : List Loc) (cells slots : Nat) (ls : Array Slot), zl_ok sc n i h → zq_kd h 64 = some (0, 9) → zq_lr sz ad ls 7 (zl_lv i) → va_P (dC, dI) zq_cl (zq_ws cA sz ad h) H → va_S (fun q => sz ≤ q) s.heap H locs → cells + n ≤ 601024 → slots + 6 * n ≤ 7293034 → W p l e room_1 s m #[Value.ref b] below meth c H locs cells slots (lw_Z below #[Value.ref b] s) (F0 m 23 ls []) := by
  obtain ⟨hx, hb, hml, hown, hts, henv, hin, ho⟩ := id cx
  have run : ∀ (pc : Nat) (lv : List (Option Value)) (st : List Value) (h h' : zH) (Φ : zC → Prop) (H : Heap) (locs : List Loc) (cells slots : Nat) (ls : Array Slot), zq_wq sc zl_sp 1000 265 pc lv st h Φ → zq_lr sz ad ls 7 lv → va_P (dC, dI) zq_cl (zq_ws cA sz ad h) H → va_S (fun q => sz ≤ q) s.heap H locs → cells ≤ 601024 → slots ≤ 7293034 → (∀ (cF : zC) H' locs' ls', Φ cF → cF.2.2.2.1 = h.1 → zq_lr sz ad ls' 7 cF.2.1 → va_P (dC, dI) zq_cl (zq_ws cA sz ad cF.2.2.2) H' → va_S (fun q => sz ≤ q) s.heap H' locs' → W p l e room_1 s m #[Value.ref b] below meth c H' locs' cells slots (lw_Z below #[Value.ref b] s) (F0 m cF.1 ls' (cF.2.2.1.map (zq_tr sz ad)))) → W p l e room_1 s m #[Value.ref b] below meth c H locs cells slots (lw_Z below #[Value.ref b] s) (F0 m pc ls (st.map (zq_tr sz ad))) := by
    intro pc lv st h h' Φ H locs cells slots ls hw hlr hP hS hc hs kk
    obtain ⟨n, cF, hfr, hΦ⟩ := hw
    have hk := zq_fr_k _ _ _ _ _ hfr
    dsimp only at hk
    have hk2 : zq_ns cF.2.2.2 = zq_ns h := by unfold zq_ns; rw [hk]
    refine zq_fr_okL (al := false) (stop := zl_sp) (ds := 0) (k := 265) zw_ldec zw_np cx (Or.inl rfl) n 1000 (pc, lv, st, h) cF H locs cells slots ls hfr (by decide) (by decide) hlr hP hS (fun q => by cases q) ?_ ?_ (fun H' locs' ls' a1 a2 a3 => ?_)
    · dsimp only; rw [hk, Nat.sub_self]; exact hc
    · dsimp only; rw [hk2, Nat.sub_self]; exact hs
    · dsimp only
      rw [hk, hk2, Nat.sub_self, Nat.sub_self]
      exact kk cF H' locs' ls' hΦ hk a1 a2 a3
  have e37 : ∀ (h h' : zH) (o : Nat), h'.1 = h.1 → zq_kd h' o = zq_kd h o := fun h h' o q => by unfold zq_kd; rw [q]
  intro n
  induction n with
  | zero =>
    intro i h H locs cells slots ls hok h64 hlr hP hS hc hs
    obtain ⟨vs, h', hbd⟩ := hok
    refine run 23 (zl_lv i) [] h h' _ H locs cells slots ls (zl_body_ok sc 999 (by decide) hbd) hlr hP hS hc hs (fun cF H' locs' ls' hΦ _ _ _ hS' => ?_)
    obtain ⟨-, -, g1, g2⟩ := hΦ
    rw [g1, g2]
    refine va_forget (fun q hq => by rw [← hsz]; exact hS'.2.2 q hq) ?_
    refine W.widen (k := 601024) (n := 7293034) hc hs ?_
    exact lw_ret hx hb hr hlocks (zw_ldec 1256 (.ireturn, 1) (by decide +kernel)).1
  | succ n ih =>
    intro i h H locs cells slots ls hok h64 hlr hP hS hc hs
    obtain ⟨h', hit, hok⟩ := hok
    have fin : ∀ (hh : zH) (H : Heap) (locs : List Loc) (ls : Array Slot), hh = h' → zq_kd hh 64 = some (0, 9) → zq_lr sz ad ls 7 (zl_lv i) → va_P (dC, dI) zq_cl (zq_ws cA sz ad hh) H → va_S (fun q => sz ≤ q) s.heap H locs → W p l e room_1 s m #[Value.ref b] below meth c H locs (cells + 1) (slots + 6) (lw_Z below #[Value.ref b] s) (F0 m 1249 ls ([].map (zq_tr sz ad))) := by
      intro hh H locs ls e64 hk64 hlr hP hS
      subst e64
      refine zw_s1 (st := []) (pc' := 1252) (lv' := zl_lv (i + 7)) (st' := []) (h' := hh) cx (zw_ldec 1249 (.iinc 4 7, 3) (by decide +kernel)).1 rfl rfl hlr hP hS (by show _ ≤ 601024; omega) (by show _ ≤ 7293034; omega) (fun H locs ls hlr hP hS => ?_)
      refine zw_s1 (st := []) (pc' := 23) (lv' := zl_lv (i + 7)) (st' := []) (h' := hh) cx (zw_ldec 1252 (.goto (-1229), 3) (by decide +kernel)).1 rfl rfl hlr hP hS (by show _ ≤ 601024; omega) (by show _ ≤ 7293034; omega) (fun H locs ls hlr hP hS => ?_)
      exact ih (i + 7) hh H locs (cells + 1) (slots + 6) ls hok hk64 hlr hP hS (by omega) (by omega)
    rcases hit with ⟨vs, hbd⟩ | ⟨a, b', w, h1, h2, h3, ro, k, hbd, hre, hlp, hb2⟩
    · refine run 23 (zl_lv i) [] h h' _ H locs cells slots ls (zl_body_ok sc 999 (by decide) hbd) hlr hP hS (by omega) (by omega) (fun cF H' locs' ls' hΦ hk hlr' hP' hS' => ?_)
      obtain ⟨g0, g3, g1, g2⟩ := hΦ
      rw [g1, g2]
      rw [g3] at hlr'
      refine W.widen (k := cells + 1) (n := slots + 6) (by omega) (by omega) ?_
      exact fin cF.2.2.2 H' locs' ls' g0 (by rw [e37 _ _ _ hk]; exact h64) hlr' hP' hS'
    · refine run 23 (zl_lv i) [] h h1 _ H locs cells slots ls (zl_body_ok sc 999 (by decide) hbd) hlr hP hS (by omega) (by omega) (fun cF H' locs' ls' hΦ hk hlr' hP' hS' => ?_)
      obtain ⟨g0, g3, g1, g2⟩ := hΦ
      rw [g1, g2]
      rw [g3] at hlr'
      rw [g0] at hP' hk
      have hk1 : zq_kd h1 64 = some (0, 9) := by rw [e37 _ _ _ hk]; exact h64
      have hk2 : h2.1 = h1.1 := by
        obtain ⟨n9, c9, hf9, hΦ9⟩ := zx_rests_ok sc 9 (by decide) hre
        have := zq_fr_k _ _ _ _ _ hf9
        rw [← hΦ9.1]
        exact this
      have hk3 : h3.1 = h2.1 := by
        unfold zw_lp at hlp
        cases ro with
        | none => exact congrArg Prod.fst hlp.2
        | some r => exact zw_wrLk hlp.2
      have hM := zw_lrests (dC := dC) (dI := dI) (cA := cA) (sz := sz) (ad := ad) hl hre hk1 hlp
      have hG : GoodIn zq_WG (va_wsS "RaffleArmyLaw" 141 zw_ly (zw_lcw :: zq_WG)) := by
        obtain ⟨t1, t2, t3, t4, t5⟩ := zw_ltab
        have key : ∀ w ∈ va_wsS "RaffleArmyLaw" 141 zw_ly (zw_lcw :: zq_WG), w ∈ zq_WG := by
          intro w hw
          unfold va_wsS at hw
          simp only [List.mem_append, List.mem_cons, List.not_mem_nil, or_false] at hw
          rcases hw with (rfl | rfl | rfl) | rfl | hw
          all_goals first
            | exact hw
            | exact t4
            | exact t5
            | exact t3
            | exact t1
        exact fun w hw => ⟨key w hw, good_of_word (List.mem_filter.mp (key w hw)).2⟩
      have cw : vx_CSW room_1 s #[Value.ref b] "RaffleArmyLaw" 141 zw_ly method_3_code 6 (some .int) [(0, 12, 15, 13)] (zw_lcw :: zq_WG) zw_lr 1 6 5 := vx_cwSW 5 hts hG rfl rfl rfl ⟨by decide, by decide, by decide +kernel⟩ ⟨by decide, by decide⟩
      have hstk : List.map (zq_tr sz ad) (.ref 243 :: ([a, b', w].reverse.map Value.int ++ [.ref 64])) = (([Value.ref 64, .int a, .int b', .int w, .ref 243]).map (zq_tr sz ad)).reverse ++ [] := rfl
      refine zq_call (vx_runSW ⟨hx, hb, hml, hown, hts⟩ hM cw ⟨zw_blind, fun U hU hWm => ⟨rfl, ?_, ?_, by rw [hU]; exact hP'⟩⟩ rfl rfl hlr'.1.1 hstk (lv_room (Nat.le_of_ble_eq_true rfl)) (zw_ldec 1062 (.invokestatic 141, 3) (by decide +kernel)).1 ⟨by show _ ≤ 601024; omega, by show _ ≤ 7293034; omega⟩) hS' (fun H1 locs1 hP1 hS1 => ?_)
      · exact henv.moved hWm (by rw [hU]; exact hS'.1) (fun q g1 g2 => by rw [hU]; exact hS'.2.1 q g1 g2)
      · exact hxt.moved hWm (fun q g1 g2 => by rw [hU]; exact hS'.2.1 q g1 g2)
      refine run 1065 (zl_lv i) [.int k] h3 h' _ H1 locs1 (cells + 1) (slots + 6) ls' (zl_bod2_ok sc 999 (by decide) hb2) hlr' hP1 hS1 (by omega) (by omega) (fun cF H2 locs2 ls2 hΦ hkk hl2 hP2 hS2 => ?_)
      obtain ⟨g0, ⟨u, v, g3⟩, g⟩ := hΦ
      obtain ⟨g1, g2⟩ := g rfl
      rw [g1, g2]
      rw [g3] at hl2
      exact fin cF.2.2.2 H2 locs2 ls2 g0 (by rw [e37 _ _ _ hkk, e37 _ _ _ hk3, e37 _ _ _ hk2]; exact hk1) (zw_fgt hl2) hP2 hS2
end ZG
