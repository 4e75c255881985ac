/-! names, on both sides -/
def zPay (L : List zTo) : List Nat := match L with
  | t :: _ => t.2.2.1
  | [] => []
/-- the man of that name -/
def zmn (Q : zQs) (w : List Nat) : Option Nat := zfd (fun m => decide ((w, 20 + m) ∈ Q)) 0 6
theorem zmn_s {Q : zQs} {w : List Nat} {m : Nat} (h : zmn Q w = some m) : (w, 20 + m) ∈ Q ∧ m < 6 := by
  obtain ⟨h1, h2, h3, h4⟩ := zfd_s h
  exact ⟨of_decide_eq_true h1, by omega⟩
theorem zmn_n {Q : zQs} {w : List Nat} (h : zmn Q w = none) : ∀ m, m < 6 → (w, 20 + m) ∉ Q := fun m hm q => by
  have := zfd_n h m (by omega) (by omega)
  rw [decide_eq_true q] at this
  cases this
theorem zQw_u {A : zA} {Q : zQs} (hQ : zQw A Q) {x y : List Nat × Nat} (hx : x ∈ Q) (hy : y ∈ Q) (h : x.1 = y.1 ∨ x.2 = y.2) : x = y := by
  obtain ⟨i, hi⟩ := List.getElem?_of_mem hx
  obtain ⟨j, hj⟩ := List.getElem?_of_mem hy
  have := hQ.2.2.1 i j x y hi hj h
  subst this
  rw [hi] at hj
  exact Option.some.inj hj
theorem znm_w {I : zII} {J : zJJ} {wd : Option Nat} {T : List Nat} {L : List zTo} (h : zTs I J wd T L) (hn : znm L = true) : zWd (zPay L) ∧ J 65 4 = zl (zcw 27 (zPay L) 0) ∧ ∃ t L', L = t :: L' := by
  cases L with
  | nil => cases hn
  | cons t L =>
    have h1 : t.1 = 1 := by
      unfold znm at hn
      rw [Bool.and_eq_true] at hn
      exact of_decide_eq_true hn.1
    have hg := (h.2.2.2.2 t List.mem_cons_self).2
    refine ⟨?_, ?_, t, L, rfl⟩
    · rcases hg with ⟨_, g⟩ | ⟨g, _⟩ | ⟨g, _⟩ | g
      · exact g
      · omega
      · omega
      · omega
    · rcases h.2.1.2.2 with ⟨_, _, g, _⟩ | ⟨g, _⟩ | ⟨g, _⟩ | ⟨g, _⟩
      · exact g
      · omega
      · omega
      · omega
section ZO
variable {sc : zX} {I : zII} {J : zJJ} {r : zRr}
theorem rdL_A8 {a i : Nat} (ha : a = 96 ∨ a = 113) (hi : i < 6) : zq_rdL (zG I J r) (a + 8) (zn i) = some (J (a + 8) i) := by
  rcases ha with rfl | rfl
  · exact e_rdL (n := 6) rfl hi (by decide)
  · exact e_rdL (n := 6) rfl hi (by decide)
theorem lnL_A8 {a : Nat} (ha : a = 96 ∨ a = 113) : zq_len sc (zG I J r) (a + 8) = some (zn 6) := by
  rcases ha with rfl | rfl
  · exact e_len (t := 1) rfl (by decide)
  · exact e_len (t := 1) rfl (by decide)
theorem manNamed_e {a : Nat} {A : zA} {Q : zQs} (ha : a = 96 ∨ a = 113) (hw : zAw A) (h : I a 1 = zn (aM A)) (hQ : zQw A Q) (hc : zQc a J Q) {w : List Nat} (hwd : zWd w) : zx_Army_manNamed sc a (zl (zcw 27 w 0)) (zG I J r) = some (z32 (zmn Q w), zG I J r) := by
  have hM := hw.2.1
  have hb := zcw_b (b := 27) (by decide) (by decide) hwd
  have hnm : ∀ m, m < aM A → ∃ w', (w', 20 + m) ∈ Q ∧ zWd w' ∧ J (a + 8) m = zl (zcw 27 w' 0) := by
    intro m hm
    obtain ⟨w', hw'⟩ := hQ.2.2.2 m hm
    exact ⟨w', hw', (hQ.2.1 _ hw').1, hc w' m hw'⟩
  have hfd : zmn Q w = zfd (fun m => decide ((w, 20 + m) ∈ Q)) 0 (aM A) := by
    unfold zmn
    cases hz : zfd (fun m => decide ((w, 20 + m) ∈ Q)) 0 (aM A) with
    | none =>
      refine zfd_no (fun i h1 h2 => ?_)
      by_cases hi : i < aM A
      · exact zfd_n hz i (by omega) (by omega)
      · refine decide_eq_false (fun q => ?_)
        rcases (hQ.2.1 _ q).2 with g | ⟨m, g1, g2⟩
        · have g' : 20 + i < aP A := g
          have := hw.1
          omega
        · have g' : 20 + i = 20 + m := g2
          omega
    | some k =>
      obtain ⟨g1, g2, g3, g4⟩ := zfd_s hz
      cases hz2 : zfd (fun m => decide ((w, 20 + m) ∈ Q)) 0 6 with
      | none =>
        have := zfd_n hz2 k (by omega) (by omega)
        rw [g1] at this; cases this
      | some k2 =>
        obtain ⟨f1, f2, f3, f4⟩ := zfd_s hz2
        have := zQw_u hQ (of_decide_eq_true g1) (of_decide_eq_true f1) (Or.inl rfl)
        have h2 : 20 + k = 20 + k2 := congrArg Prod.snd this
        congr 1
        omega
  rw [ux_Army_manNamed, gR_A_14 ha, gI_A ha, h, hfd]
  have hi : zx_Army_indexOf sc (a + 8) (zn (aM A)) (zl (zcw 27 w 0)) (zG I J r) = some (z32 (zfd (fun m => decide ((w, 20 + m) ∈ Q)) 0 (aM A)), zG I J r) := by
    rw [ux_Army_indexOf]
    rw [zsrch0 (fun n j => zx_Army_indexOf_l3 sc n (a + 8) (zn (aM A)) (zl (zcw 27 w 0)) (zn j) (zG I J r)) (fun k => some (zn k, zG I J r)) (some (zN, zG I J r)) (fun m => decide ((w, 20 + m) ∈ Q)) (aM A) (by omega) (fun n j hj => ?_) (fun n => ?_)]
    · cases zfd (fun m => decide ((w, 20 + m) ∈ Q)) 0 (aM A) <;> rfl
    · obtain ⟨w', q1, q2, q3⟩ := hnm j hj
      have hl := lgc_eq (x := zcw 27 w' 0) (y := zcw 27 w 0) (zcw_b (by decide) (by decide) q2) hb
      (try dsimp only)
      rw [ux_Army_indexOf_l3, if_neg (by rw [zn_le (by omega) (by omega)]; omega), lnL_A8 ha]
      show (if zn 6 ≤ zn j then _ else zo_b (zq_rdL (zG I J r) (a + 8) (zn j)) _) = _
      rw [if_neg (by rw [zn_le (by omega) (by omega)]; omega), rdL_A8 ha (by omega), q3]
      show (if lg_cmp (zl (zcw 27 w' 0)) (zl (zcw 27 w 0)) = zn 0 then _ else _) = _
      by_cases c : w' = w
      · rw [if_pos (hl.mpr (by rw [c])), if_pos (decide_eq_true (by rw [← c]; exact q1))]
      · have c2 : ¬ (w, 20 + j) ∈ Q := fun z => by
          have := zQw_u hQ q1 z (Or.inr rfl)
          exact c (congrArg Prod.fst this)
        rw [if_neg (fun z => c (zcw_inj (b := 27) (by decide) 8 _ _ q2.2.1 q2.2.2 hwd.2.2 (hl.mp z))), if_neg (by rw [decide_eq_true_eq]; exact c2), zn_add]
    · (try dsimp only)
      rw [ux_Army_indexOf_l3, if_pos (by rw [zn_le (by omega) (by omega)]; exact Nat.le_refl _)]
  rw [zoc hi]
end ZO
