/-! where it begins; printed by wip/whole/gen72b.py -/
def zc_iv : List (Nat × Nat × Int32) := [(96, 0, zn 0), (96, 1, zn 0), (96, 2, zn 10), (96, 3, zn 5), (96, 4, zn 20), (96, 5, zn 13), (96, 6, zn 3), (109, 0, zn 0), (110, 0, zn 0), (109, 1, zn 0), (110, 1, zn 0), (109, 2, zn 0), (110, 2, zn 0), (68, 0, zN), (69, 0, zn 0), (68, 1, zN), (69, 1, zn 0), (68, 2, zN), (69, 2, zn 0), (68, 3, zN), (69, 3, zn 0), (68, 4, zN), (69, 4, zn 0), (68, 5, zN), (69, 5, zn 0), (67, 2, zn 0), (67, 3, zn 5), (67, 4, zn 0), (67, 5, zn 0), (73, 3, zn 0), (73, 4, zn 0), (64, 15, zn 0), (64, 16, zn 0), (64, 17, zn 0), (130, 0, zn 0), (65, 1, zn 0), (77, 0, zn 0), (222, 0, zn 0), (222, 1, zn 0), (222, 2, zn 10), (222, 3, zn 5), (222, 4, zn 20), (222, 5, zn 13), (222, 6, zn 3), (222, 7, zN), (222, 8, zN), (222, 9, zN), (232, 0, zn 0), (232, 1, zn 5), (232, 2, zn 0), (232, 3, zN), (232, 4, zN), (232, 10, zn 0), (232, 5, zN), (232, 11, zn 0), (232, 6, zN), (232, 12, zn 0), (232, 7, zN), (232, 13, zn 0), (232, 8, zN), (232, 14, zn 0), (232, 9, zN), (232, 15, zn 0), (232, 16, zn 0), (232, 22, zn 0), (216, 26, zn 0), (229, 0, zn 0), (216, 2, zn 0), (216, 18, zn 0), (233, 0, zn 0), (233, 1, zn 0), (233, 2, zn 0), (233, 3, zn 0)]
def zc_I : zII := zc_h.2.1
def zc_J : zJJ := zc_h.2.2.1
theorem zc_vals : (∀ q ∈ zc_iv, zc_I q.1 q.2.1 = q.2.2) ∧ (∀ q ∈ zwd37.zip (List.range 36), zc_J 221 q.2 = zl q.1) ∧ zR0 65 3 = none ∧ zR0 64 11 = some 96 ∧ zR0 64 12 = some 113 ∧ zR0 64 13 = some 130 ∧ zR0 64 14 = some 135 := by decide +kernel
theorem zcI (o k : Nat) (v : Int32) (h : (o, k, v) ∈ zc_iv) : zc_I o k = v := zc_vals.1 (o, k, v) h
theorem zc_sk1 : zc_h.1 = zc_sk := by
  have h := zc_ok
  unfold zc_h
  cases hz : zc_run with
  | none => rw [hz] at h; cases h
  | some z =>
    rw [hz] at h
    exact (of_decide_eq_true h).2.2.2
def zc_r : zRr := (96, 113, 130, 135, none)
theorem zc_G : zc_h = zG zc_I zc_J zc_r := by
  have e : zR0 = zRf zc_r := by
    obtain ⟨_, _, v1, v2, v3, v4, v5⟩ := zc_vals
    funext o k
    unfold zRf
    by_cases c1 : o = 64 ∧ k = 11
    · rw [if_pos c1, c1.1, c1.2]; exact v2
    · rw [if_neg c1]
      by_cases c2 : o = 64 ∧ k = 12
      · rw [if_pos c2, c2.1, c2.2]; exact v3
      · rw [if_neg c2]
        by_cases c3 : o = 64 ∧ k = 13
        · rw [if_pos c3, c3.1, c3.2]; exact v4
        · rw [if_neg c3]
          by_cases c4 : o = 64 ∧ k = 14
          · rw [if_pos c4, c4.1, c4.2]; exact v5
          · rw [if_neg c4]
            by_cases c5 : o = 65 ∧ k = 3
            · rw [if_pos c5, c5.1, c5.2]; exact v1
            · rw [if_neg c5]
  unfold zG
  rw [← e, ← zc_sk1]
  unfold zc_I zc_J zR0
  generalize zc_h = z
  obtain ⟨z1, z2, z3, z4⟩ := z
  rfl
def zc_D : zDft := (zA0, [], fun _ => false)
theorem zc_Rc : zRc (zX0 zc_D) zc_I zc_J zc_r := by
  refine ⟨⟨Or.inl ⟨rfl, rfl⟩, Or.inl ⟨rfl, rfl⟩⟩, ⟨zcI 96 0 (zn 0) (by decide), zcI 96 1 (zn 0) (by decide), fun i hi => ?_, fun p hp => absurd hp (Nat.not_lt_zero p), fun i m hi hm => absurd hm (Nat.not_lt_zero m), fun q hq => ?_, fun m p hm => absurd hm (Nat.not_lt_zero m)⟩, ⟨fun p hp => ?_, fun m hm => ?_, zcI 67 2 (zn 0) (by decide), zcI 67 3 (zn 5) (by decide), zcI 67 4 (zn 0) (by decide), zcI 67 5 (zn 0) (by decide)⟩, ⟨zcI 73 3 (zn 0) (by decide), zcI 73 4 (zn 0) (by decide), (fun i x hx => by cases hx), (fun i x hx => by cases hx)⟩, ⟨Nat.zero_le 16, zcI 64 15 (zn 0) (by decide), 0, by decide, zcI 64 16 (zn 0) (by decide), (fun i V hV => by cases hV)⟩, ⟨fun m hm => ?_, (fun m V N hm hK => by cases hK)⟩, ⟨zcI 130 0 (zn 0) (by decide), (fun i l hl => by cases hl)⟩, zTc_n (zcI 65 1 (zn 0) (by decide)), (fun w m hm => by cases hm), ⟨false, zcI 77 0 (zn 0) (by decide), (fun q => by cases q)⟩⟩
  · rcases (by omega : i = 0 ∨ i = 1 ∨ i = 2 ∨ i = 3 ∨ i = 4) with rfl | rfl | rfl | rfl | rfl
    · exact zcI 96 2 (zn 10) (by decide)
    · exact zcI 96 3 (zn 5) (by decide)
    · exact zcI 96 4 (zn 20) (by decide)
    · exact zcI 96 5 (zn 13) (by decide)
    · exact zcI 96 6 (zn 3) (by decide)
  · rcases (by omega : q = 0 ∨ q = 1 ∨ q = 2) with rfl | rfl | rfl
    · exact ⟨zcI 109 0 (zn 0) (by decide), zcI 110 0 (zn 0) (by decide)⟩
    · exact ⟨zcI 109 1 (zn 0) (by decide), zcI 110 1 (zn 0) (by decide)⟩
    · exact ⟨zcI 109 2 (zn 0) (by decide), zcI 110 2 (zn 0) (by decide)⟩
  · rcases (by omega : p = 0 ∨ p = 1 ∨ p = 2 ∨ p = 3 ∨ p = 4 ∨ p = 5) with rfl | rfl | rfl | rfl | rfl | rfl
    · exact zcI 68 0 zN (by decide)
    · exact zcI 68 1 zN (by decide)
    · exact zcI 68 2 zN (by decide)
    · exact zcI 68 3 zN (by decide)
    · exact zcI 68 4 zN (by decide)
    · exact zcI 68 5 zN (by decide)
  · rcases (by omega : m = 0 ∨ m = 1 ∨ m = 2 ∨ m = 3 ∨ m = 4 ∨ m = 5) with rfl | rfl | rfl | rfl | rfl | rfl
    · exact zcI 69 0 (zn 0) (by decide)
    · exact zcI 69 1 (zn 0) (by decide)
    · exact zcI 69 2 (zn 0) (by decide)
    · exact zcI 69 3 (zn 0) (by decide)
    · exact zcI 69 4 (zn 0) (by decide)
    · exact zcI 69 5 (zn 0) (by decide)
  · have e : zc_I 64 17 = zn 0 := zcI 64 17 (zn 0) (by decide)
    rw [e, zb_0]
    rfl
theorem zc_Rm : zRm (zX0 zc_D) zc_I zc_J := by
  refine ⟨⟨zcI 222 0 (zn 0) (by decide), zcI 222 1 (zn 0) (by decide), fun i hi => ?_, fun p hp => absurd hp (Nat.not_lt_zero p), fun i m hi hm => absurd hm (Nat.not_lt_zero m), fun q hq => ?_⟩, ⟨zcI 232 0 (zn 0) (by decide), zcI 232 1 (zn 5) (by decide), zcI 232 2 (zn 0) (by decide), zcI 232 3 zN (by decide), fun p hp => ?_, fun m hm => ?_⟩, ⟨zcI 232 16 (zn 0) (by decide), zcI 232 22 (zn 0) (by decide), (fun i x hx => by cases hx), (fun i x hx => by cases hx)⟩, ⟨zcI 216 26 (zn 0) (by decide), (fun i V hV => by cases hV)⟩, ⟨fun m hm => ?_, (fun m V N hm hK => by cases hK)⟩, ⟨zcI 229 0 (zn 0) (by decide), (fun i l hl => by cases hl)⟩, zTq_n (zcI 216 2 (zn 0) (by decide)), ⟨zcI 216 18 (zn 0) (by decide), (fun i x hx => by cases hx)⟩, fun i x hx => ?_⟩
  · rcases (by omega : i = 0 ∨ i = 1 ∨ i = 2 ∨ i = 3 ∨ i = 4) with rfl | rfl | rfl | rfl | rfl
    · exact zcI 222 2 (zn 10) (by decide)
    · exact zcI 222 3 (zn 5) (by decide)
    · exact zcI 222 4 (zn 20) (by decide)
    · exact zcI 222 5 (zn 13) (by decide)
    · exact zcI 222 6 (zn 3) (by decide)
  · rcases (by omega : q = 0 ∨ q = 1 ∨ q = 2) with rfl | rfl | rfl
    · exact zcI 222 7 zN (by decide)
    · exact zcI 222 8 zN (by decide)
    · exact zcI 222 9 zN (by decide)
  · rcases (by omega : p = 0 ∨ p = 1 ∨ p = 2 ∨ p = 3 ∨ p = 4 ∨ p = 5) with rfl | rfl | rfl | rfl | rfl | rfl
    · exact zcI 232 4 zN (by decide)
    · exact zcI 232 5 zN (by decide)
    · exact zcI 232 6 zN (by decide)
    · exact zcI 232 7 zN (by decide)
    · exact zcI 232 8 zN (by decide)
    · exact zcI 232 9 zN (by decide)
  · rcases (by omega : m = 0 ∨ m = 1 ∨ m = 2 ∨ m = 3 ∨ m = 4 ∨ m = 5) with rfl | rfl | rfl | rfl | rfl | rfl
    · exact zcI 232 10 (zn 0) (by decide)
    · exact zcI 232 11 (zn 0) (by decide)
    · exact zcI 232 12 (zn 0) (by decide)
    · exact zcI 232 13 (zn 0) (by decide)
    · exact zcI 232 14 (zn 0) (by decide)
    · exact zcI 232 15 (zn 0) (by decide)
  · rcases (by omega : m = 0 ∨ m = 1 ∨ m = 2 ∨ m = 3) with rfl | rfl | rfl | rfl
    · exact zcI 233 0 (zn 0) (by decide)
    · exact zcI 233 1 (zn 0) (by decide)
    · exact zcI 233 2 (zn 0) (by decide)
    · exact zcI 233 3 (zn 0) (by decide)
  · have hi := (List.getElem?_eq_some_iff.mp hx).1
    have hlen : zwd37.length = 36 := by decide
    refine zc_vals.2.1 (x, i) ?_
    refine List.mem_of_getElem? (i := i) ?_
    rw [List.getElem?_zip_eq_some]
    exact ⟨hx, by rw [List.getElem?_range (by omega)]⟩
theorem zc_D_w : zDw zc_D := zDw_0
