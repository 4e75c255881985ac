/-! what holds at the law's entry, in the words of the small machine -/
def R_law : String := "RaffleArmyLaw"
def zw_gn : Cond := Jvm.Cond.and given_1 narrow_1
def zw_st (i : Nat) : Term := .static "RaffleArmy$Word" (zq_wN.getD i "") "LRaffleArmy$Word;"
def zw_wd : Term := .static "RaffleArmy" "WORDS" "[LRaffleArmy$Word;"
theorem zw_kin : ∀ ci, ci < 11 → (Cond.instantiable (zq_R ci) (zq_N ci)) ∈ lw_tbl := by decide +kernel
theorem zw_ls : ∀ i, i < 36 → (Cond.laysStatic "RaffleArmy$Word" (zq_wN.getD i "") "LRaffleArmy$Word;") ∈ lw_tbl := by decide +kernel
theorem zw_lw : (Cond.laysStatic "RaffleArmy" "WORDS" "[LRaffleArmy$Word;") ∈ lw_tbl ∧ (Cond.initialized "RaffleArmy") ∈ lw_tbl ∧ (Cond.initialized "RaffleArmy$Word") ∈ lw_tbl ∧ (Cond.arrayClass .int) ∈ lw_tbl ∧ (Cond.arrayClass .long) ∈ lw_tbl ∧ (Cond.arrayClass .char) ∈ lw_tbl ∧ (Cond.arrayClass .boolean) ∈ lw_tbl ∧ (Cond.arrayOver (.object "RaffleArmy$State")) ∈ lw_tbl ∧ (Cond.arrayOver (.object "RaffleArmy$Notes")) ∈ lw_tbl ∧ (Cond.fieldLinkNest "RaffleArmy$Tape" 60 "RaffleArmy" "WORDS" "[LRaffleArmy$Word;" "RaffleArmy") ∈ lw_tbl := by decide +kernel
section ZW
variable {s : State} {b L : Nat} {xs : Nat → Int32}
theorem zw_arr {ty : FieldType} (hts : ∀ w ∈ lw_tbl, w.before #[Value.ref b] s = true) (hin : (Cond.arrayClass ty) ∈ lw_tbl) : ∃ cA, ArrOfT s cA ty ∧ s.vm.findClass ("[" ++ ty.toString) = some cA := by
  obtain ⟨c, k, comp, h1, h2, h3⟩ := Cond.arrayClass_spec (hts _ hin)
  exact ⟨c, fun n z => ⟨fun k h => (by cases h), k, h2, comp, h3⟩, h1⟩
theorem zw_arrO {C : String} (hts : ∀ w ∈ lw_tbl, w.before #[Value.ref b] s = true) (hin : (Cond.arrayOver (.object C)) ∈ lw_tbl) : ∃ cA, ArrOfT s cA (.object C) ∧ va_RA s cA (.object C) := by
  obtain ⟨comp, c, k, h1, h2, h3, h4, h5⟩ := Cond.arrayOver_spec (hts _ hin)
  exact ⟨c, fun n z => ⟨fun k h => (by cases h), k, h3, comp, h4⟩, k, comp, h3, h4, h1, h5⟩
theorem zw_env (hts : ∀ w ∈ lw_tbl, w.before #[Value.ref b] s = true) (hX : va_X b L xs s s.heap) (hbl : b < s.heap.size) (hgv : (Jvm.Cond.and given_1 narrow_1).before #[Value.ref b] s = true) : ∃ (dC : Nat → ClassId) (dI : Nat → Nat → Nat) (cA : Nat → ClassId) (ad : Nat → Nat), zq_env dC dI cA s.heap.size ad (L + 1, xs) s s.heap ∧ ad 37 = b := by
  have hs := flat_of_before _ hgv
  have hA : ∀ a : Nat, a < s.heap.size → ¬ (fun q : Nat => s.heap.size ≤ q) a := fun a h => Nat.not_le.mpr h
  have hK0 : ∀ ci : Nat, ∃ (z : ClassId × (Nat → Nat)), ci < 11 → u_Kn s (zq_R ci) (zq_Tf ci) (zq_N ci) z.1 z.2 := by
    intro ci
    by_cases hc : ci < 11
    · obtain ⟨cC, iS, h⟩ := u_known (C := zq_R ci) (T := zq_Tf ci) (N := zq_N ci) (n := zq_N ci) hts (fun w hw => (List.mem_filter.mp (zq_lay hc w hw)).1) (hts _ (zw_kin ci hc))
      exact ⟨(cC, iS), fun _ => h⟩
    · exact ⟨(0, fun _ => 0), fun h => absurd h hc⟩
  obtain ⟨D, hD⟩ := Classical.axiomOfChoice hK0
  obtain ⟨w1, w2, w3, w4, w5, w6, w7, w8, w9, w10⟩ := zw_lw
  obtain ⟨c1, a1, n1⟩ := zw_arr hts w4
  obtain ⟨c2, a2, n2⟩ := zw_arr hts w5
  obtain ⟨c3, a3, n3⟩ := zw_arr hts w6
  obtain ⟨c4, a4, n4⟩ := zw_arr hts w7
  obtain ⟨c5, a5, n5⟩ := zw_arrO hts w8
  obtain ⟨c6, a6, n6⟩ := zw_arrO hts w9
  have hex0 : ∀ i, i < 36 → (Cond.exactly (zw_st i) "RaffleArmy$Word").before #[Value.ref b] s = true := fun i hi => hs _ ((show ∀ i, i < 36 → Cond.exactly (zw_st i) "RaffleArmy$Word" ∈ flatC (Jvm.Cond.and given_1 narrow_1) by decide +kernel) i hi)
  have hC0 : ∀ i, i < 36 → (Cond.eq (.field (zw_st i) "RaffleArmy$Word" "code" "J") (.long (zq_wC.getD i 0))).before #[Value.ref b] s = true := fun i hi => hs _ ((show ∀ i, i < 36 → Cond.eq (.field (zw_st i) "RaffleArmy$Word" "code" "J") (.long (zq_wC.getD i 0)) ∈ flatC (Jvm.Cond.and given_1 narrow_1) by decide +kernel) i hi)
  have hU0 : ∀ i, i < 36 → (Cond.eq (.field (zw_st i) "RaffleArmy$Word" "use" "I") (.int (zq_wU.getD i 0))).before #[Value.ref b] s = true := fun i hi => hs _ ((show ∀ i, i < 36 → Cond.eq (.field (zw_st i) "RaffleArmy$Word" "use" "I") (.int (zq_wU.getD i 0)) ∈ flatC (Jvm.Cond.and given_1 narrow_1) by decide +kernel) i hi)
  have hW0 : ∀ i, i < 36 → (Cond.eq (.field (zw_st i) "RaffleArmy$Word" "which" "I") (.int (zq_wW.getD i 0))).before #[Value.ref b] s = true := fun i hi => hs _ ((show ∀ i, i < 36 → Cond.eq (.field (zw_st i) "RaffleArmy$Word" "which" "I") (.int (zq_wW.getD i 0)) ∈ flatC (Jvm.Cond.and given_1 narrow_1) by decide +kernel) i hi)
  have hE0 : ∀ i, i < 36 → (Cond.eq (.elem zw_wd (.int (Int32.ofNat i))) (zw_st i)).before #[Value.ref b] s = true := fun i hi => hs _ ((show ∀ i, i < 36 → Cond.eq (.elem zw_wd (.int (Int32.ofNat i))) (zw_st i) ∈ flatC (Jvm.Cond.and given_1 narrow_1) by decide +kernel) i hi)
  obtain ⟨hwx, hwa, hwl⟩ : (Cond.exactly zw_wd "[LRaffleArmy$Word;").before #[Value.ref b] s = true ∧ (Cond.arrayOf zw_wd (.object "RaffleArmy$Word")).before #[Value.ref b] s = true ∧ (Cond.eq (.length zw_wd) (.int 36)).before #[Value.ref b] s = true := ⟨hs _ (by decide +kernel), hs _ (by decide +kernel), hs _ (by decide +kernel)⟩
  have had0 : ∀ i : Nat, ∃ t : Nat, i < 36 → (zw_st i).eval #[Value.ref b] s none [] s = some (.ref t) ∧ va_O "RaffleArmy$Word" t (fun q => s.heap.size ≤ q) s s.heap := by
    intro i
    by_cases hi : i < 36
    · obtain ⟨a, c, cell, k, q1, q2, q3, q4, q5, q6, -⟩ := Cond.exactly_spec (hex0 i hi)
      exact ⟨a, fun _ => ⟨q1, cell, q3, q5, by rw [q6]; exact q2, hA a (Array.getElem?_eq_some_iff.mp q3).1⟩⟩
    · exact ⟨0, fun h => absurd h hi⟩
  obtain ⟨ad0, had⟩ := Classical.axiomOfChoice had0
  obtain ⟨t, ht, hT⟩ := va_Tof (tm := zw_wd) (ty := .object "RaffleArmy$Word") (N := 36) (f := fun j => .ref (ad0 j)) (A := fun q => s.heap.size ≤ q) (by decide) hwa (va_eqt hwl) (fun j hj => va_eqv (hE0 j hj) (had j hj).1) hA
  obtain ⟨ta, tc, tcell, tk, tq1, tq2, tq3, tq4, tq5, tq6, -⟩ := Cond.exactly_spec hwx
  cases ht.symm.trans tq1
  have hFc : va_Ef 36 "RaffleArmy$Word" "code" "J" (fun i => .long (zq_wC.getD i 0)) ad0 (fun q => s.heap.size ≤ q) s s.heap := va_Efof (nm := zq_wN) (tm := fun i => .long (zq_wC.getD i 0)) (fun i hi => (had i hi).1) hC0 (fun i hi => rfl) hA
  have hFu : va_Ef 36 "RaffleArmy$Word" "use" "I" (fun i => .int (zq_wU.getD i 0)) ad0 (fun q => s.heap.size ≤ q) s s.heap := va_Efof (nm := zq_wN) (tm := fun i => .int (zq_wU.getD i 0)) (fun i hi => (had i hi).1) hU0 (fun i hi => rfl) hA
  have hFw : va_Ef 36 "RaffleArmy$Word" "which" "I" (fun i => .int (zq_wW.getD i 0)) ad0 (fun q => s.heap.size ≤ q) s s.heap := va_Efof (nm := zq_wN) (tm := fun i => .int (zq_wW.getD i 0)) (fun i hi => (had i hi).1) hW0 (fun i hi => rfl) hA
  obtain ⟨scr, hscr, hscrA, hscrK, hscrS, hscrV⟩ := id hX
  have d1 : ∀ i j, i < 36 → j < 36 → ad0 i = ad0 j → i = j := by
    intro i j hi hj hij
    obtain ⟨cf, k, fi, f, cell, g1, g2, g3, g4, g5, g6⟩ := hFc i hi
    obtain ⟨cf', k', fi', f', cell', g1', g2', g3', g4', g5', g6'⟩ := hFc j hj
    cases g1.symm.trans g1'
    rw [hij] at g3
    cases g3.symm.trans g3'
    have e := g5.symm.trans g5'
    have e2 : zq_wC.getD i 0 = zq_wC.getD j 0 := by
      have := Option.some.inj e
      exact Value.long.inj this
    exact (show ∀ i, i < 36 → ∀ j, j < 36 → zq_wC.getD i 0 = zq_wC.getD j 0 → i = j by decide +kernel) i hi j hj e2
  have d2 : ∀ i, i < 36 → ad0 i ≠ t := by
    intro i hi e
    obtain ⟨cell, g1, g2, g3, g4⟩ := (had i hi).2
    rw [e, tq3] at g1
    cases g1
    rw [tq6] at g3
    obtain ⟨k1, hk1, n1⟩ := Vm.findClass_spec g3
    obtain ⟨k2, hk2, n2⟩ := Vm.findClass_spec tq2
    cases hk1.symm.trans hk2
    exact absurd (n1.symm.trans n2) (by decide)
  have d3 : ∀ i, i < 36 → ad0 i ≠ b := by
    intro i hi e
    obtain ⟨cf, k, fi, f, cell, g1, g2, g3, g4, g5, g6⟩ := hFc i hi
    rw [e, hscr] at g3
    cases g3
    have hlt : f.slot < scr.slots.size := (Array.getElem?_eq_some_iff.mp g5).1
    rw [hscrS] at hlt
    rw [hscrV _ hlt] at g5
    cases g5
  have d4 : t ≠ b := by
    intro e
    obtain ⟨cell, g1, g2, -⟩ := hT
    rw [e, hscr] at g1
    cases g1
    obtain ⟨-, k1, hk1, comp1, hkind1⟩ := g2
    obtain ⟨-, k2, hk2, comp2, hkind2⟩ := hscrA
    cases hk1.symm.trans hk2
    rw [hkind1] at hkind2
    cases hkind2
  have htl : t < s.heap.size := (Array.getElem?_eq_some_iff.mp tq3).1
  have hal : ∀ i, i < 36 → ad0 i < s.heap.size := fun i hi => by
    obtain ⟨cell, g1, -⟩ := (had i hi).2
    exact (Array.getElem?_eq_some_iff.mp g1).1
  refine ⟨fun c => (D c).1, fun c => (D c).2, fun n => if n = 1 then c1 else if n = 2 then c2 else if n = 3 then c3 else if n = 4 then c4 else if n = 5 then c5 else c6, fun i => if i < 36 then ad0 i else if i = 36 then t else b, ⟨⟨?_, ?_⟩, ?_, ?_, ?_, ?_, ?_, ?_, ?_, ?_, ?_, ?_, ?_, ?_, ?_⟩, rfl⟩
  · intro c q hq
    unfold zq_cl at hq
    rw [List.getElem?_map] at hq
    by_cases hc : c < 11
    · rw [List.getElem?_range hc] at hq
      cases hq
      exact hD c hc
    · rw [List.getElem?_eq_none (by simp; omega)] at hq
      cases hq
  · intro k q hq
    unfold zq_tys at hq
    match k, hq with
    | 0, hq => cases hq; exact ⟨a1, n1⟩
    | 1, hq => cases hq; exact ⟨a2, n2⟩
    | 2, hq => cases hq; exact ⟨a3, n3⟩
    | 3, hq => cases hq; exact ⟨a4, n4⟩
    | 4, hq => cases hq; exact ⟨a5, n5⟩
    | 5, hq => cases hq; exact ⟨a6, n6⟩
    | k + 6, hq => simp at hq
  · intro o ho e he hne
    have hp := zq_ppk o ho e he
    rw [if_neg hne, Bool.and_eq_true, decide_eq_true_eq] at hp
    exact va_Nw.of rfl (hts _ (List.mem_of_getElem? hp.1))
  · exact va_Nw.of rfl (hts _ w10)
  · exact ⟨va_AO.of (hts _ w8), va_AO.of (hts _ w9)⟩
  · intro i hi
    show va_Z _ _ _ (.ref (if i < 36 then ad0 i else if i = 36 then t else b)) _ _ _
    rw [if_pos hi]
    exact va_Zof (hts _ (zw_ls i hi)) (hts _ w3) (had i hi).1 hA
  · exact va_Zof (hts _ w1) (hts _ w2) ht hA
  · obtain ⟨cell, g1, g2, g3, g4, g5, g6, g7⟩ := hT
    refine ⟨cell, g1, g2, g3, g4, g5, fun j hj => ?_, g7⟩
    rw [g6 j hj]
    dsimp only
    rw [if_pos hj]
  · intro i hi
    have := hFc i hi
    dsimp only
    rw [if_pos hi]
    exact this
  · intro i hi
    have := hFu i hi
    dsimp only
    rw [if_pos hi]
    exact this
  · intro i hi
    have := hFw i hi
    dsimp only
    rw [if_pos hi]
    exact this
  · intro _
    exact ⟨hX, hbl, hbl⟩
  · intro i j hi hj hij
    dsimp only at hij
    by_cases h1 : i < 36
    · rw [if_pos h1] at hij
      by_cases h2 : j < 36
      · rw [if_pos h2] at hij
        exact d1 i j h1 h2 hij
      · rw [if_neg h2] at hij
        by_cases h4 : j = 36
        · rw [if_pos h4] at hij
          exact absurd hij (d2 i h1)
        · rw [if_neg h4] at hij
          exact absurd hij (d3 i h1)
    · rw [if_neg h1] at hij
      by_cases h3 : i = 36
      · rw [if_pos h3] at hij
        by_cases h2 : j < 36
        · rw [if_pos h2] at hij
          exact absurd hij.symm (d2 j h2)
        · rw [if_neg h2] at hij
          by_cases h4 : j = 36
          · omega
          · rw [if_neg h4] at hij
            exact absurd hij d4
      · rw [if_neg h3] at hij
        by_cases h2 : j < 36
        · rw [if_pos h2] at hij
          exact absurd hij.symm (d3 j h2)
        · rw [if_neg h2] at hij
          by_cases h4 : j = 36
          · rw [if_pos h4] at hij
            exact absurd hij.symm d4
          · omega
  · intro i hi
    dsimp only
    split
    · exact hal i (by assumption)
    · split
      · exact htl
      · exact hbl
  · exact Nat.le_refl _
end ZW
