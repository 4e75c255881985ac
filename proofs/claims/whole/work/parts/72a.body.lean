/-! the law, once round: printed by wip/whole/gen72.py -/
section ZL
variable {L : Nat} {xs : Nat → Int32} {I : zII} {J : zJJ} {r : zRr} {k : Nat}
theorem rd37 (hk : k < L) (hL : L ≤ 3584) {i : Int32} (hi : i = zn k) : zq_rdI (L + 1, xs) (zG I J r) 37 i = some (xs k) := by
  subst hi
  show (if (37 : Nat) = 37 then (if zn k < 0 ∨ L + 1 ≤ (zn k).toNatClampNeg + 1 then none else some (xs (zn k).toNatClampNeg)) else _) = _
  rw [if_pos rfl, zn_tn (by omega), if_neg]
  rintro (q | q)
  · exact zn_0 (by omega) q
  · omega
theorem ln37 : zq_len (L + 1, xs) (zG I J r) 37 = some (zn L) := by
  show (if (37 : Nat) = 37 then (if L + 1 = 0 then none else some (Int32.ofNat (L + 1 - 1))) else _) = _
  rw [if_pos rfl, if_neg (by omega)]
  rfl
theorem end37 (hL : L ≤ 3584) (hk : k ≤ 3600) : (zn L - (7 : Int32) < zn k) ↔ L < k + 7 := by
  rw [show (7 : Int32) = zi 7 from by decide, ← zi_n, ← zi_n, zi_sub, zi_lt (by omega) (by omega) (by omega) (by omega)]
  omega
theorem zkp (d : Nat) (x : Int32) (hx : x = zn d) : zn k + x = zn (k + d) := by rw [hx, zn_add]
theorem zand31 (y : Int32) : ∃ c, c < 32 ∧ y &&& (31 : Int32) = zn c := by
  refine ⟨(y.toBitVec &&& (31 : Int32).toBitVec).toNat, ?_, ?_⟩
  · rw [BitVec.toNat_and]
    exact Nat.lt_of_le_of_lt Nat.and_le_right (by decide)
  · apply Int32.toBitVec_inj.mp
    rw [Int32.toBitVec_and]
    show _ = BitVec.ofNat 32 _
    rw [BitVec.ofNat_toNat, BitVec.setWidth_eq]
theorem zbool (y : Int32) : (if y = 0 then (0 : Int32) else (1 : Int32)) = zt (!decide (y = 0)) := by
  by_cases c : y = 0
  · rw [if_pos c, decide_eq_true c]; rfl
  · rw [if_neg c, decide_eq_false c]; rfl
variable {t : Nat} {X : zXs}
/-- how it comes out -/
def zL0 (L : Nat) (xs : Nat → Int32) (t k : Nat) (I : zII) (J : zJJ) (r : zRr) : Prop := ∃ vs I2 J2 r2 X', zl_body (L + 1, xs) (zn k) (zG I J r) = some ((0, vs), zG I2 J2 r2) ∧ zXw (t + 1) X' ∧ zRc X' I2 J2 r2 ∧ zRm X' I2 J2
theorem zlb_0 (hX : zXw t X) (hc : zRc X I J r) (hm : zRm X I J) (hL : L ≤ 3584) (hk : k + 7 ≤ L) (hy : xs k &&& (31 : Int32) = zn 0) : zL0 L xs t k I J r := by
  obtain ⟨v, I1, J1, r1, I2, J2, X', e1, e2, w1, w2, w3⟩ := op_feed (sc := (L + 1, xs)) hX (((xs (k + 1)).toInt64 <<< ((32 : Int32).toInt64 &&& 63)) ||| ((xs (k + 2)).toInt64 &&& (4294967295 : Int64))) (((xs (k + 3)).toInt64 <<< ((32 : Int32).toInt64 &&& 63)) ||| ((xs (k + 4)).toInt64 &&& (4294967295 : Int64))) (((xs (k + 5)).toInt64 <<< ((32 : Int32).toInt64 &&& 63)) ||| ((xs (k + 6)).toInt64 &&& (4294967295 : Int64))) I J r hc hm
  (try dsimp only at e1 e2)
  refine ⟨[], I2, J2, r1, X', ?_, w1, w2, w3⟩
  unfold zl_body
  rw [zob ln37, if_neg (by rw [end37 hL (by omega)]; omega), zob (rd37 (k := k) (by omega) hL rfl), hy, if_pos (by decide)]
  rw [zob (rd37 (k := k + 1) (by omega) hL (zkp 1 (1 : Int32) (by decide))), zob (rd37 (k := k + 2) (by omega) hL (zkp 2 (2 : Int32) (by decide))), zob (rd37 (k := k + 3) (by omega) hL (zkp 3 (3 : Int32) (by decide))), zob (rd37 (k := k + 4) (by omega) hL (zkp 4 (4 : Int32) (by decide))), zob (rd37 (k := k + 5) (by omega) hL (zkp 5 (5 : Int32) (by decide))), zob (rd37 (k := k + 6) (by omega) hL (zkp 6 (6 : Int32) (by decide))), zov rfl, zoc e1]
  (try dsimp only)
  rw [zob (rd37 (k := k + 1) (by omega) hL (zkp 1 (1 : Int32) (by decide))), zob (rd37 (k := k + 2) (by omega) hL (zkp 2 (2 : Int32) (by decide))), zob (rd37 (k := k + 3) (by omega) hL (zkp 3 (3 : Int32) (by decide))), zob (rd37 (k := k + 4) (by omega) hL (zkp 4 (4 : Int32) (by decide))), zob (rd37 (k := k + 5) (by omega) hL (zkp 5 (5 : Int32) (by decide))), zob (rd37 (k := k + 6) (by omega) hL (zkp 6 (6 : Int32) (by decide))), zov rfl, zoc e2, if_pos rfl]
theorem zlb_1 (hX : zXw t X) (hc : zRc X I J r) (hm : zRm X I J) (hL : L ≤ 3584) (hk : k + 7 ≤ L) (hy : xs k &&& (31 : Int32) = zn 1) : zL0 L xs t k I J r := by
  obtain ⟨v, I1, J1, r1, I2, J2, X', e1, e2, w1, w2, w3⟩ := op_army (sc := (L + 1, xs)) hX  I J r hc hm
  (try dsimp only at e1 e2)
  refine ⟨[], I2, J2, r1, X', ?_, w1, w2, w3⟩
  unfold zl_body
  rw [zob ln37, if_neg (by rw [end37 hL (by omega)]; omega), zob (rd37 (k := k) (by omega) hL rfl), hy, if_neg (by decide), if_pos (by decide)]
  rw [zov rfl, zoc e1]
  (try dsimp only)
  rw [zov rfl, zoc e2, if_pos rfl]
theorem zlb_2 (hX : zXw t X) (hc : zRc X I J r) (hm : zRm X I J) (hL : L ≤ 3584) (hk : k + 7 ≤ L) (hy : xs k &&& (31 : Int32) = zn 2) : zL0 L xs t k I J r := by
  obtain ⟨v, I1, J1, r1, I2, J2, X', e1, e2, w1, w2, w3⟩ := op_war (sc := (L + 1, xs)) hX  I J r hc hm
  (try dsimp only at e1 e2)
  refine ⟨[], I2, J2, r1, X', ?_, w1, w2, w3⟩
  unfold zl_body
  rw [zob ln37, if_neg (by rw [end37 hL (by omega)]; omega), zob (rd37 (k := k) (by omega) hL rfl), hy, if_neg (by decide), if_neg (by decide), if_pos (by decide)]
  rw [zov rfl, zoc e1]
  (try dsimp only)
  rw [zov rfl, zoc e2, if_pos rfl]
theorem zlb_3 (hX : zXw t X) (hc : zRc X I J r) (hm : zRm X I J) (hL : L ≤ 3584) (hk : k + 7 ≤ L) (hy : xs k &&& (31 : Int32) = zn 3) : zL0 L xs t k I J r := by
  obtain ⟨v, I1, J1, r1, I2, J2, X', e1, e2, w1, w2, w3⟩ := op_post (sc := (L + 1, xs)) hX (xs (k + 1)) (xs (k + 2)) I J r hc hm
  (try dsimp only at e1 e2)
  refine ⟨[], I2, J2, r1, X', ?_, w1, w2, w3⟩
  unfold zl_body
  rw [zob ln37, if_neg (by rw [end37 hL (by omega)]; omega), zob (rd37 (k := k) (by omega) hL rfl), hy, if_neg (by decide), if_neg (by decide), if_neg (by decide), if_pos (by decide)]
  rw [zob (rd37 (k := k + 1) (by omega) hL (zkp 1 (1 : Int32) (by decide))), zob (rd37 (k := k + 2) (by omega) hL (zkp 2 (2 : Int32) (by decide))), zov rfl, zoc e1]
  (try dsimp only)
  rw [zob (rd37 (k := k + 1) (by omega) hL (zkp 1 (1 : Int32) (by decide))), zob (rd37 (k := k + 2) (by omega) hL (zkp 2 (2 : Int32) (by decide))), zov rfl, zoc e2, if_pos rfl]
theorem zlb_4 (hX : zXw t X) (hc : zRc X I J r) (hm : zRm X I J) (hL : L ≤ 3584) (hk : k + 7 ≤ L) (hy : xs k &&& (31 : Int32) = zn 4) : zL0 L xs t k I J r := by
  obtain ⟨v, I1, J1, r1, I2, J2, X', e1, e2, w1, w2, w3⟩ := op_man (sc := (L + 1, xs)) hX (xs (k + 1)) (xs (k + 2)) I J r hc hm
  (try dsimp only at e1 e2)
  refine ⟨[], I2, J2, r1, X', ?_, w1, w2, w3⟩
  unfold zl_body
  rw [zob ln37, if_neg (by rw [end37 hL (by omega)]; omega), zob (rd37 (k := k) (by omega) hL rfl), hy, if_neg (by decide), if_neg (by decide), if_neg (by decide), if_neg (by decide), if_pos (by decide)]
  rw [zob (rd37 (k := k + 1) (by omega) hL (zkp 1 (1 : Int32) (by decide))), zob (rd37 (k := k + 2) (by omega) hL (zkp 2 (2 : Int32) (by decide))), zov rfl, zoc e1]
  (try dsimp only)
  rw [zob (rd37 (k := k + 1) (by omega) hL (zkp 1 (1 : Int32) (by decide))), zob (rd37 (k := k + 2) (by omega) hL (zkp 2 (2 : Int32) (by decide))), zov rfl, zoc e2, if_pos rfl]
theorem zlb_5 (hX : zXw t X) (hc : zRc X I J r) (hm : zRm X I J) (hL : L ≤ 3584) (hk : k + 7 ≤ L) (hy : xs k &&& (31 : Int32) = zn 5) : zL0 L xs t k I J r := by
  obtain ⟨v, I1, J1, r1, I2, J2, X', e1, e2, w1, w2, w3⟩ := op_skill (sc := (L + 1, xs)) hX (xs (k + 1)) (xs (k + 2)) I J r hc hm
  (try dsimp only at e1 e2)
  refine ⟨[], I2, J2, r1, X', ?_, w1, w2, w3⟩
  unfold zl_body
  rw [zob ln37, if_neg (by rw [end37 hL (by omega)]; omega), zob (rd37 (k := k) (by omega) hL rfl), hy, if_neg (by decide), if_neg (by decide), if_neg (by decide), if_neg (by decide), if_neg (by decide), if_pos (by decide)]
  rw [zob (rd37 (k := k + 1) (by omega) hL (zkp 1 (1 : Int32) (by decide))), zob (rd37 (k := k + 2) (by omega) hL (zkp 2 (2 : Int32) (by decide))), zov rfl, zoc e1]
  (try dsimp only)
  rw [zob (rd37 (k := k + 1) (by omega) hL (zkp 1 (1 : Int32) (by decide))), zob (rd37 (k := k + 2) (by omega) hL (zkp 2 (2 : Int32) (by decide))), zov rfl, zoc e2, if_pos rfl]
theorem zlb_6 (hX : zXw t X) (hc : zRc X I J r) (hm : zRm X I J) (hL : L ≤ 3584) (hk : k + 7 ≤ L) (hy : xs k &&& (31 : Int32) = zn 6) : zL0 L xs t k I J r := by
  obtain ⟨v, I1, J1, r1, I2, J2, X', e1, e2, w1, w2, w3⟩ := op_ours (sc := (L + 1, xs)) hX  I J r hc hm
  (try dsimp only at e1 e2)
  refine ⟨[], I2, J2, r1, X', ?_, w1, w2, w3⟩
  unfold zl_body
  rw [zob ln37, if_neg (by rw [end37 hL (by omega)]; omega), zob (rd37 (k := k) (by omega) hL rfl), hy, if_neg (by decide), if_neg (by decide), if_neg (by decide), if_neg (by decide), if_neg (by decide), if_neg (by decide), if_pos (by decide)]
  rw [zov rfl, zoc e1]
  (try dsimp only)
  rw [zov rfl, zoc e2, if_pos rfl]
theorem zlb_7 (hX : zXw t X) (hc : zRc X I J r) (hm : zRm X I J) (hL : L ≤ 3584) (hk : k + 7 ≤ L) (hy : xs k &&& (31 : Int32) = zn 7) : zL0 L xs t k I J r := by
  obtain ⟨v, I1, J1, r1, I2, J2, X', e1, e2, w1, w2, w3⟩ := op_draw (sc := (L + 1, xs)) hX (xs (k + 1)) I J r hc hm
  (try dsimp only at e1 e2)
  refine ⟨[], I2, J2, r1, X', ?_, w1, w2, w3⟩
  unfold zl_body
  rw [zob ln37, if_neg (by rw [end37 hL (by omega)]; omega), zob (rd37 (k := k) (by omega) hL rfl), hy, if_neg (by decide), if_neg (by decide), if_neg (by decide), if_neg (by decide), if_neg (by decide), if_neg (by decide), if_neg (by decide), if_pos (by decide)]
  rw [zob (rd37 (k := k + 1) (by omega) hL (zkp 1 (1 : Int32) (by decide))), zov rfl, zoc e1]
  (try dsimp only)
  rw [zob (rd37 (k := k + 1) (by omega) hL (zkp 1 (1 : Int32) (by decide))), zov rfl, zoc e2, if_pos rfl]
theorem zlb_8 (hX : zXw t X) (hc : zRc X I J r) (hm : zRm X I J) (hL : L ≤ 3584) (hk : k + 7 ≤ L) (hy : xs k &&& (31 : Int32) = zn 8) : zL0 L xs t k I J r := by
  obtain ⟨v, I1, J1, r1, I2, J2, X', e1, e2, w1, w2, w3⟩ := op_sell (sc := (L + 1, xs)) hX (xs (k + 1)) (xs (k + 2)) (xs (k + 3)) I J r hc hm
  (try dsimp only at e1 e2)
  refine ⟨[], I2, J2, r1, X', ?_, w1, w2, w3⟩
  unfold zl_body
  rw [zob ln37, if_neg (by rw [end37 hL (by omega)]; omega), zob (rd37 (k := k) (by omega) hL rfl), hy, if_neg (by decide), if_neg (by decide), if_neg (by decide), if_neg (by decide), if_neg (by decide), if_neg (by decide), if_neg (by decide), if_neg (by decide), if_pos (by decide)]
  rw [zob (rd37 (k := k + 1) (by omega) hL (zkp 1 (1 : Int32) (by decide))), zob (rd37 (k := k + 2) (by omega) hL (zkp 2 (2 : Int32) (by decide))), zob (rd37 (k := k + 3) (by omega) hL (zkp 3 (3 : Int32) (by decide))), zov rfl, zoc e1]
  (try dsimp only)
  rw [zob (rd37 (k := k + 1) (by omega) hL (zkp 1 (1 : Int32) (by decide))), zob (rd37 (k := k + 2) (by omega) hL (zkp 2 (2 : Int32) (by decide))), zob (rd37 (k := k + 3) (by omega) hL (zkp 3 (3 : Int32) (by decide))), zov rfl, zoc e2, if_pos rfl]
theorem zlb_9 (hX : zXw t X) (hc : zRc X I J r) (hm : zRm X I J) (hL : L ≤ 3584) (hk : k + 7 ≤ L) (hy : xs k &&& (31 : Int32) = zn 9) : zL0 L xs t k I J r := by
  obtain ⟨v, I1, J1, r1, I2, J2, X', e1, e2, w1, w2, w3⟩ := op_order (sc := (L + 1, xs)) hX (xs (k + 1)) I J r hc hm
  (try dsimp only at e1 e2)
  refine ⟨[], I2, J2, r1, X', ?_, w1, w2, w3⟩
  unfold zl_body
  rw [zob ln37, if_neg (by rw [end37 hL (by omega)]; omega), zob (rd37 (k := k) (by omega) hL rfl), hy, if_neg (by decide), if_neg (by decide), if_neg (by decide), if_neg (by decide), if_neg (by decide), if_neg (by decide), if_neg (by decide), if_neg (by decide), if_neg (by decide), if_pos (by decide)]
  rw [zob (rd37 (k := k + 1) (by omega) hL (zkp 1 (1 : Int32) (by decide))), zov rfl, zoc e1]
  (try dsimp only)
  rw [zob (rd37 (k := k + 1) (by omega) hL (zkp 1 (1 : Int32) (by decide))), zov rfl, zoc e2, if_pos rfl]
theorem zlb_10 (hX : zXw t X) (hc : zRc X I J r) (hm : zRm X I J) (hL : L ≤ 3584) (hk : k + 7 ≤ L) (ht : t ≤ 900) (hy : xs k &&& (31 : Int32) = zn 10) : zL0 L xs t k I J r := by
  obtain ⟨v, I1, J1, r1, I2, J2, X', e1, e2, w1, w2, w3⟩ := op_weeks (sc := (L + 1, xs)) hX ht (xs (k + 1)) I J r hc hm
  (try dsimp only at e1 e2)
  refine ⟨[], I2, J2, r1, X', ?_, w1, w2, w3⟩
  unfold zl_body
  rw [zob ln37, if_neg (by rw [end37 hL (by omega)]; omega), zob (rd37 (k := k) (by omega) hL rfl), hy, if_neg (by decide), if_neg (by decide), if_neg (by decide), if_neg (by decide), if_neg (by decide), if_neg (by decide), if_neg (by decide), if_neg (by decide), if_neg (by decide), if_neg (by decide), if_pos (by decide)]
  rw [zob (rd37 (k := k + 1) (by omega) hL (zkp 1 (1 : Int32) (by decide))), zov rfl, zoc e1]
  (try dsimp only)
  rw [zob (rd37 (k := k + 1) (by omega) hL (zkp 1 (1 : Int32) (by decide))), zov rfl, zoc e2, if_pos rfl]
theorem zlb_11 (hX : zXw t X) (hc : zRc X I J r) (hm : zRm X I J) (hL : L ≤ 3584) (hk : k + 7 ≤ L) (hy : xs k &&& (31 : Int32) = zn 11) : zL0 L xs t k I J r := by
  obtain ⟨v, I1, J1, r1, I2, J2, X', e1, e2, w1, w2, w3⟩ := op_undo (sc := (L + 1, xs)) hX  I J r hc hm
  (try dsimp only at e1 e2)
  refine ⟨[], I2, J2, r1, X', ?_, w1, w2, w3⟩
  unfold zl_body
  rw [zob ln37, if_neg (by rw [end37 hL (by omega)]; omega), zob (rd37 (k := k) (by omega) hL rfl), hy, if_neg (by decide), if_neg (by decide), if_neg (by decide), if_neg (by decide), if_neg (by decide), if_neg (by decide), if_neg (by decide), if_neg (by decide), if_neg (by decide), if_neg (by decide), if_neg (by decide), if_pos (by decide)]
  rw [zov rfl, zoc e1]
  (try dsimp only)
  rw [zov rfl, zoc e2, if_pos rfl]
theorem zlb_12 (hX : zXw t X) (hc : zRc X I J r) (hm : zRm X I J) (hL : L ≤ 3584) (hk : k + 7 ≤ L) (hy : xs k &&& (31 : Int32) = zn 12) : zL0 L xs t k I J r := by
  obtain ⟨v, I1, J1, r1, I2, J2, X', e1, e2, w1, w2, w3⟩ := op_judged (sc := (L + 1, xs)) hX (xs (k + 1)) I J r hc hm
  (try dsimp only at e1 e2)
  refine ⟨[], I2, J2, r1, X', ?_, w1, w2, w3⟩
  unfold zl_body
  rw [zob ln37, if_neg (by rw [end37 hL (by omega)]; omega), zob (rd37 (k := k) (by omega) hL rfl), hy, if_neg (by decide), if_neg (by decide), if_neg (by decide), if_neg (by decide), if_neg (by decide), if_neg (by decide), if_neg (by decide), if_neg (by decide), if_neg (by decide), if_neg (by decide), if_neg (by decide), if_neg (by decide), if_pos (by decide)]
  rw [zob (rd37 (k := k + 1) (by omega) hL (zkp 1 (1 : Int32) (by decide))), zov rfl, zoc e1]
  (try dsimp only)
  rw [zob (rd37 (k := k + 1) (by omega) hL (zkp 1 (1 : Int32) (by decide))), zov rfl, zoc e2, if_pos rfl]
theorem zlb_13 (hX : zXw t X) (hc : zRc X I J r) (hm : zRm X I J) (hL : L ≤ 3584) (hk : k + 7 ≤ L) (hy : xs k &&& (31 : Int32) = zn 13) : zL0 L xs t k I J r := by
  obtain ⟨v, I1, J1, r1, I2, J2, X', e1, e2, w1, w2, w3⟩ := op_first (sc := (L + 1, xs)) hX  I J r hc hm
  (try dsimp only at e1 e2)
  refine ⟨[], I2, J2, r1, X', ?_, w1, w2, w3⟩
  unfold zl_body
  rw [zob ln37, if_neg (by rw [end37 hL (by omega)]; omega), zob (rd37 (k := k) (by omega) hL rfl), hy, if_neg (by decide), if_neg (by decide), if_neg (by decide), if_neg (by decide), if_neg (by decide), if_neg (by decide), if_neg (by decide), if_neg (by decide), if_neg (by decide), if_neg (by decide), if_neg (by decide), if_neg (by decide), if_neg (by decide), if_pos (by decide)]
  rw [zov rfl, zoc e1]
  (try dsimp only)
  rw [zov rfl, zoc e2, if_pos rfl]
theorem zlb_14 (hX : zXw t X) (hc : zRc X I J r) (hm : zRm X I J) (hL : L ≤ 3584) (hk : k + 7 ≤ L) (hy : xs k &&& (31 : Int32) = zn 14) : zL0 L xs t k I J r := by
  obtain ⟨v, I1, J1, r1, I2, J2, X', e1, e2, w1, w2, w3⟩ := op_best (sc := (L + 1, xs)) hX (xs (k + 1)) I J r hc hm
  (try dsimp only at e1 e2)
  refine ⟨[], I2, J2, r1, X', ?_, w1, w2, w3⟩
  unfold zl_body
  rw [zob ln37, if_neg (by rw [end37 hL (by omega)]; omega), zob (rd37 (k := k) (by omega) hL rfl), hy, if_neg (by decide), if_neg (by decide), if_neg (by decide), if_neg (by decide), if_neg (by decide), if_neg (by decide), if_neg (by decide), if_neg (by decide), if_neg (by decide), if_neg (by decide), if_neg (by decide), if_neg (by decide), if_neg (by decide), if_neg (by decide), if_pos (by decide)]
  rw [zob (rd37 (k := k + 1) (by omega) hL (zkp 1 (1 : Int32) (by decide))), zov rfl, zoc e1]
  (try dsimp only)
  rw [zob (rd37 (k := k + 1) (by omega) hL (zkp 1 (1 : Int32) (by decide))), zov rfl, zoc e2, if_pos rfl]
theorem zlb_15 (hX : zXw t X) (hc : zRc X I J r) (hm : zRm X I J) (hL : L ≤ 3584) (hk : k + 7 ≤ L) (hy : xs k &&& (31 : Int32) = zn 15) : zL0 L xs t k I J r := by
  obtain ⟨v, I1, J1, r1, I2, J2, X', e1, e2, w1, w2, w3⟩ := op_mean (sc := (L + 1, xs)) hX  I J r hc hm
  (try dsimp only at e1 e2)
  refine ⟨[], I2, J2, r1, X', ?_, w1, w2, w3⟩
  unfold zl_body
  rw [zob ln37, if_neg (by rw [end37 hL (by omega)]; omega), zob (rd37 (k := k) (by omega) hL rfl), hy, if_neg (by decide), if_neg (by decide), if_neg (by decide), if_neg (by decide), if_neg (by decide), if_neg (by decide), if_neg (by decide), if_neg (by decide), if_neg (by decide), if_neg (by decide), if_neg (by decide), if_neg (by decide), if_neg (by decide), if_neg (by decide), if_neg (by decide), if_pos (by decide)]
  rw [zov rfl, zoc e1]
  (try dsimp only)
  rw [zov rfl, zoc e2, if_pos rfl]
theorem zlb_16 (hX : zXw t X) (hc : zRc X I J r) (hm : zRm X I J) (hL : L ≤ 3584) (hk : k + 7 ≤ L) (hy : xs k &&& (31 : Int32) = zn 16) : zL0 L xs t k I J r := by
  obtain ⟨v, I1, J1, r1, I2, J2, X', e1, e2, w1, w2, w3⟩ := op_loss (sc := (L + 1, xs)) hX  I J r hc hm
  (try dsimp only at e1 e2)
  refine ⟨[], I2, J2, r1, X', ?_, w1, w2, w3⟩
  unfold zl_body
  rw [zob ln37, if_neg (by rw [end37 hL (by omega)]; omega), zob (rd37 (k := k) (by omega) hL rfl), hy, if_neg (by decide), if_neg (by decide), if_neg (by decide), if_neg (by decide), if_neg (by decide), if_neg (by decide), if_neg (by decide), if_neg (by decide), if_neg (by decide), if_neg (by decide), if_neg (by decide), if_neg (by decide), if_neg (by decide), if_neg (by decide), if_neg (by decide), if_neg (by decide), if_pos (by decide)]
  rw [zov rfl, zoc e1]
  (try dsimp only)
  rw [zov rfl, zoc e2, if_pos rfl]
theorem zlb_17 (hX : zXw t X) (hc : zRc X I J r) (hm : zRm X I J) (hL : L ≤ 3584) (hk : k + 7 ≤ L) (hy : xs k &&& (31 : Int32) = zn 17) : zL0 L xs t k I J r := by
  obtain ⟨v, I1, J1, r1, I2, J2, X', e1, e2, w1, w2, w3⟩ := op_plan (sc := (L + 1, xs)) hX (xs (k + 1)) (xs (k + 2)) I J r hc hm
  (try dsimp only at e1 e2)
  refine ⟨[], I2, J2, r1, X', ?_, w1, w2, w3⟩
  unfold zl_body
  rw [zob ln37, if_neg (by rw [end37 hL (by omega)]; omega), zob (rd37 (k := k) (by omega) hL rfl), hy, if_neg (by decide), if_neg (by decide), if_neg (by decide), if_neg (by decide), if_neg (by decide), if_neg (by decide), if_neg (by decide), if_neg (by decide), if_neg (by decide), if_neg (by decide), if_neg (by decide), if_neg (by decide), if_neg (by decide), if_neg (by decide), if_neg (by decide), if_neg (by decide), if_neg (by decide), if_pos (by decide)]
  rw [zob (rd37 (k := k + 1) (by omega) hL (zkp 1 (1 : Int32) (by decide))), zob (rd37 (k := k + 2) (by omega) hL (zkp 2 (2 : Int32) (by decide))), zov rfl, zoc e1]
  (try dsimp only)
  rw [zob (rd37 (k := k + 1) (by omega) hL (zkp 1 (1 : Int32) (by decide))), zob (rd37 (k := k + 2) (by omega) hL (zkp 2 (2 : Int32) (by decide))), zov rfl, zoc e2, if_pos rfl]
theorem zlb_18 (hX : zXw t X) (hc : zRc X I J r) (hm : zRm X I J) (hL : L ≤ 3584) (hk : k + 7 ≤ L) (hy : xs k &&& (31 : Int32) = zn 18) : zL0 L xs t k I J r := by
  obtain ⟨v, I1, J1, r1, I2, J2, X', e1, e2, w1, w2, w3⟩ := op_swaps (sc := (L + 1, xs)) hX (xs (k + 1)) I J r hc hm
  (try dsimp only at e1 e2)
  refine ⟨[], I2, J2, r1, X', ?_, w1, w2, w3⟩
  unfold zl_body
  rw [zob ln37, if_neg (by rw [end37 hL (by omega)]; omega), zob (rd37 (k := k) (by omega) hL rfl), hy, if_neg (by decide), if_neg (by decide), if_neg (by decide), if_neg (by decide), if_neg (by decide), if_neg (by decide), if_neg (by decide), if_neg (by decide), if_neg (by decide), if_neg (by decide), if_neg (by decide), if_neg (by decide), if_neg (by decide), if_neg (by decide), if_neg (by decide), if_neg (by decide), if_neg (by decide), if_neg (by decide), if_pos (by decide)]
  rw [zob (rd37 (k := k + 1) (by omega) hL (zkp 1 (1 : Int32) (by decide))), zov rfl, zoc e1]
  (try dsimp only)
  rw [zob (rd37 (k := k + 1) (by omega) hL (zkp 1 (1 : Int32) (by decide))), zov rfl, zoc e2, if_pos rfl]
theorem zlb_19 (hX : zXw t X) (hc : zRc X I J r) (hm : zRm X I J) (hL : L ≤ 3584) (hk : k + 7 ≤ L) (hy : xs k &&& (31 : Int32) = zn 19) : zL0 L xs t k I J r := by
  obtain ⟨v, I1, J1, r1, I2, J2, X', e1, e2, w1, w2, w3⟩ := op_leave (sc := (L + 1, xs)) hX  I J r hc hm
  (try dsimp only at e1 e2)
  refine ⟨[], I2, J2, r1, X', ?_, w1, w2, w3⟩
  unfold zl_body
  rw [zob ln37, if_neg (by rw [end37 hL (by omega)]; omega), zob (rd37 (k := k) (by omega) hL rfl), hy, if_neg (by decide), if_neg (by decide), if_neg (by decide), if_neg (by decide), if_neg (by decide), if_neg (by decide), if_neg (by decide), if_neg (by decide), if_neg (by decide), if_neg (by decide), if_neg (by decide), if_neg (by decide), if_neg (by decide), if_neg (by decide), if_neg (by decide), if_neg (by decide), if_neg (by decide), if_neg (by decide), if_neg (by decide), if_pos (by decide)]
  rw [zov rfl, zoc e1]
  (try dsimp only)
  rw [zov rfl, zoc e2, if_pos rfl]
theorem zlb_20 (hX : zXw t X) (hc : zRc X I J r) (hm : zRm X I J) (hL : L ≤ 3584) (hk : k + 7 ≤ L) (hy : xs k &&& (31 : Int32) = zn 20) : zL0 L xs t k I J r := by
  obtain ⟨v, I1, J1, r1, I2, J2, X', e1, e2, w1, w2, w3⟩ := op_pool (sc := (L + 1, xs)) hX (xs (k + 1)) I J r hc hm
  (try dsimp only at e1 e2)
  refine ⟨[], I2, J2, r1, X', ?_, w1, w2, w3⟩
  unfold zl_body
  rw [zob ln37, if_neg (by rw [end37 hL (by omega)]; omega), zob (rd37 (k := k) (by omega) hL rfl), hy, if_neg (by decide), if_neg (by decide), if_neg (by decide), if_neg (by decide), if_neg (by decide), if_neg (by decide), if_neg (by decide), if_neg (by decide), if_neg (by decide), if_neg (by decide), if_neg (by decide), if_neg (by decide), if_neg (by decide), if_neg (by decide), if_neg (by decide), if_neg (by decide), if_neg (by decide), if_neg (by decide), if_neg (by decide), if_neg (by decide), if_pos (by decide)]
  rw [zob (rd37 (k := k + 1) (by omega) hL (zkp 1 (1 : Int32) (by decide))), zov rfl, zoc e1]
  (try dsimp only)
  rw [zob (rd37 (k := k + 1) (by omega) hL (zkp 1 (1 : Int32) (by decide))), zov rfl, zoc e2, if_pos rfl]
theorem zlb_21 (hX : zXw t X) (hc : zRc X I J r) (hm : zRm X I J) (hL : L ≤ 3584) (hk : k + 7 ≤ L) (hy : xs k &&& (31 : Int32) = zn 21) : zL0 L xs t k I J r := by
  obtain ⟨v, I1, J1, r1, I2, J2, X', e1, e2, w1, w2, w3⟩ := op_share (sc := (L + 1, xs)) hX (xs (k + 1)) (xs (k + 2)) I J r hc hm
  (try dsimp only at e1 e2)
  refine ⟨[], I2, J2, r1, X', ?_, w1, w2, w3⟩
  unfold zl_body
  rw [zob ln37, if_neg (by rw [end37 hL (by omega)]; omega), zob (rd37 (k := k) (by omega) hL rfl), hy, if_neg (by decide), if_neg (by decide), if_neg (by decide), if_neg (by decide), if_neg (by decide), if_neg (by decide), if_neg (by decide), if_neg (by decide), if_neg (by decide), if_neg (by decide), if_neg (by decide), if_neg (by decide), if_neg (by decide), if_neg (by decide), if_neg (by decide), if_neg (by decide), if_neg (by decide), if_neg (by decide), if_neg (by decide), if_neg (by decide), if_neg (by decide), if_pos (by decide)]
  rw [zob (rd37 (k := k + 1) (by omega) hL (zkp 1 (1 : Int32) (by decide))), zob (rd37 (k := k + 2) (by omega) hL (zkp 2 (2 : Int32) (by decide))), zov rfl, zoc e1]
  (try dsimp only)
  rw [zob (rd37 (k := k + 1) (by omega) hL (zkp 1 (1 : Int32) (by decide))), zob (rd37 (k := k + 2) (by omega) hL (zkp 2 (2 : Int32) (by decide))), zov rfl, zoc e2, if_pos rfl]
theorem zlb_22 (hX : zXw t X) (hc : zRc X I J r) (hm : zRm X I J) (hL : L ≤ 3584) (hk : k + 7 ≤ L) (hy : xs k &&& (31 : Int32) = zn 22) : zL0 L xs t k I J r := by
  obtain ⟨v, I1, J1, r1, I2, J2, X', e1, e2, w1, w2, w3⟩ := op_tell (sc := (L + 1, xs)) hX (xs (k + 1)) (xs (k + 2)) I J r hc hm
  (try dsimp only at e1 e2)
  refine ⟨[], I2, J2, r1, X', ?_, w1, w2, w3⟩
  unfold zl_body
  rw [zob ln37, if_neg (by rw [end37 hL (by omega)]; omega), zob (rd37 (k := k) (by omega) hL rfl), hy, if_neg (by decide), if_neg (by decide), if_neg (by decide), if_neg (by decide), if_neg (by decide), if_neg (by decide), if_neg (by decide), if_neg (by decide), if_neg (by decide), if_neg (by decide), if_neg (by decide), if_neg (by decide), if_neg (by decide), if_neg (by decide), if_neg (by decide), if_neg (by decide), if_neg (by decide), if_neg (by decide), if_neg (by decide), if_neg (by decide), if_neg (by decide), if_neg (by decide), if_pos (by decide)]
  rw [zob (rd37 (k := k + 1) (by omega) hL (zkp 1 (1 : Int32) (by decide))), zob (rd37 (k := k + 2) (by omega) hL (zkp 2 (2 : Int32) (by decide))), zov rfl, zoc e1]
  (try dsimp only)
  rw [zob (rd37 (k := k + 1) (by omega) hL (zkp 1 (1 : Int32) (by decide))), zob (rd37 (k := k + 2) (by omega) hL (zkp 2 (2 : Int32) (by decide))), zov rfl, zoc e2, if_pos rfl]
theorem zlb_23 (hX : zXw t X) (hc : zRc X I J r) (hm : zRm X I J) (hL : L ≤ 3584) (hk : k + 7 ≤ L) (hy : xs k &&& (31 : Int32) = zn 23) : zL0 L xs t k I J r := by
  obtain ⟨v, I1, J1, r1, I2, J2, X', e1, e2, w1, w2, w3⟩ := op_fair (sc := (L + 1, xs)) hX (xs (k + 1)) (xs (k + 2)) I J r hc hm
  (try dsimp only at e1 e2)
  refine ⟨[], I2, J2, r1, X', ?_, w1, w2, w3⟩
  unfold zl_body
  rw [zob ln37, if_neg (by rw [end37 hL (by omega)]; omega), zob (rd37 (k := k) (by omega) hL rfl), hy, if_neg (by decide), if_neg (by decide), if_neg (by decide), if_neg (by decide), if_neg (by decide), if_neg (by decide), if_neg (by decide), if_neg (by decide), if_neg (by decide), if_neg (by decide), if_neg (by decide), if_neg (by decide), if_neg (by decide), if_neg (by decide), if_neg (by decide), if_neg (by decide), if_neg (by decide), if_neg (by decide), if_neg (by decide), if_neg (by decide), if_neg (by decide), if_neg (by decide), if_neg (by decide), if_pos (by decide)]
  rw [zob (rd37 (k := k + 1) (by omega) hL (zkp 1 (1 : Int32) (by decide))), zob (rd37 (k := k + 2) (by omega) hL (zkp 2 (2 : Int32) (by decide))), zov rfl, zoc e1]
  (try dsimp only)
  rw [zob (rd37 (k := k + 1) (by omega) hL (zkp 1 (1 : Int32) (by decide))), zob (rd37 (k := k + 2) (by omega) hL (zkp 2 (2 : Int32) (by decide))), zov rfl, zoc e2, if_pos rfl]
theorem zlb_24 (hX : zXw t X) (hc : zRc X I J r) (hm : zRm X I J) (hL : L ≤ 3584) (hk : k + 7 ≤ L) (hy : xs k &&& (31 : Int32) = zn 24) : zL0 L xs t k I J r := by
  obtain ⟨v, I1, J1, r1, I2, J2, X', e1, e2, w1, w2, w3⟩ := op_more (sc := (L + 1, xs)) hX (xs (k + 1)) (xs (k + 2)) (xs (k + 3)) I J r hc hm
  (try dsimp only at e1 e2)
  refine ⟨[], I2, J2, r1, X', ?_, w1, w2, w3⟩
  unfold zl_body
  rw [zob ln37, if_neg (by rw [end37 hL (by omega)]; omega), zob (rd37 (k := k) (by omega) hL rfl), hy, if_neg (by decide), if_neg (by decide), if_neg (by decide), if_neg (by decide), if_neg (by decide), if_neg (by decide), if_neg (by decide), if_neg (by decide), if_neg (by decide), if_neg (by decide), if_neg (by decide), if_neg (by decide), if_neg (by decide), if_neg (by decide), if_neg (by decide), if_neg (by decide), if_neg (by decide), if_neg (by decide), if_neg (by decide), if_neg (by decide), if_neg (by decide), if_neg (by decide), if_neg (by decide), if_neg (by decide), if_pos (by decide)]
  rw [zob (rd37 (k := k + 1) (by omega) hL (zkp 1 (1 : Int32) (by decide))), zob (rd37 (k := k + 2) (by omega) hL (zkp 2 (2 : Int32) (by decide))), zob (rd37 (k := k + 3) (by omega) hL (zkp 3 (3 : Int32) (by decide))), zov rfl, zoc e1]
  (try dsimp only)
  rw [zob (rd37 (k := k + 1) (by omega) hL (zkp 1 (1 : Int32) (by decide))), zob (rd37 (k := k + 2) (by omega) hL (zkp 2 (2 : Int32) (by decide))), zob (rd37 (k := k + 3) (by omega) hL (zkp 3 (3 : Int32) (by decide))), zov rfl, zoc e2, if_pos rfl]
theorem zlb_25 (hX : zXw t X) (hc : zRc X I J r) (hm : zRm X I J) (hL : L ≤ 3584) (hk : k + 7 ≤ L) (hy : xs k &&& (31 : Int32) = zn 25) : zL0 L xs t k I J r := by
  obtain ⟨v, I1, J1, r1, I2, J2, X', e1, e2, w1, w2, w3⟩ := op_see (sc := (L + 1, xs)) hX (xs (k + 1)) I J r hc hm
  (try dsimp only at e1 e2)
  refine ⟨[], I2, J2, r1, X', ?_, w1, w2, w3⟩
  unfold zl_body
  rw [zob ln37, if_neg (by rw [end37 hL (by omega)]; omega), zob (rd37 (k := k) (by omega) hL rfl), hy, if_neg (by decide), if_neg (by decide), if_neg (by decide), if_neg (by decide), if_neg (by decide), if_neg (by decide), if_neg (by decide), if_neg (by decide), if_neg (by decide), if_neg (by decide), if_neg (by decide), if_neg (by decide), if_neg (by decide), if_neg (by decide), if_neg (by decide), if_neg (by decide), if_neg (by decide), if_neg (by decide), if_neg (by decide), if_neg (by decide), if_neg (by decide), if_neg (by decide), if_neg (by decide), if_neg (by decide), if_neg (by decide), if_pos (by decide)]
  rw [zob (rd37 (k := k + 1) (by omega) hL (zkp 1 (1 : Int32) (by decide))), zov rfl, zoc e1]
  (try dsimp only)
  rw [zob (rd37 (k := k + 1) (by omega) hL (zkp 1 (1 : Int32) (by decide))), zov rfl, zoc e2, if_pos rfl]
theorem zlb_26 (hX : zXw t X) (hc : zRc X I J r) (hm : zRm X I J) (hL : L ≤ 3584) (hk : k + 7 ≤ L) (hy : xs k &&& (31 : Int32) = zn 26) : zL0 L xs t k I J r := by
  obtain ⟨v, I1, J1, r1, I2, J2, X', e1, e2, w1, w2, w3⟩ := op_orders (sc := (L + 1, xs)) hX (xs (k + 1)) I J r hc hm
  (try dsimp only at e1 e2)
  refine ⟨[], I2, J2, r1, X', ?_, w1, w2, w3⟩
  unfold zl_body
  rw [zob ln37, if_neg (by rw [end37 hL (by omega)]; omega), zob (rd37 (k := k) (by omega) hL rfl), hy, if_neg (by decide), if_neg (by decide), if_neg (by decide), if_neg (by decide), if_neg (by decide), if_neg (by decide), if_neg (by decide), if_neg (by decide), if_neg (by decide), if_neg (by decide), if_neg (by decide), if_neg (by decide), if_neg (by decide), if_neg (by decide), if_neg (by decide), if_neg (by decide), if_neg (by decide), if_neg (by decide), if_neg (by decide), if_neg (by decide), if_neg (by decide), if_neg (by decide), if_neg (by decide), if_neg (by decide), if_neg (by decide), if_neg (by decide), if_pos (by decide)]
  rw [zob (rd37 (k := k + 1) (by omega) hL (zkp 1 (1 : Int32) (by decide))), zov rfl, zoc e1]
  (try dsimp only)
  rw [zob (rd37 (k := k + 1) (by omega) hL (zkp 1 (1 : Int32) (by decide))), zov rfl, zoc e2, if_pos rfl]
theorem zlb_27 (hX : zXw t X) (hc : zRc X I J r) (hm : zRm X I J) (hL : L ≤ 3584) (hk : k + 7 ≤ L) (hy : xs k &&& (31 : Int32) = zn 27) : zL0 L xs t k I J r := by
  obtain ⟨v, I1, J1, r1, I2, J2, X', e1, e2, w1, w2, w3⟩ := op_putOff (sc := (L + 1, xs)) hX (xs (k + 1)) I J r hc hm
  (try dsimp only at e1 e2)
  refine ⟨[], I2, J2, r1, X', ?_, w1, w2, w3⟩
  unfold zl_body
  rw [zob ln37, if_neg (by rw [end37 hL (by omega)]; omega), zob (rd37 (k := k) (by omega) hL rfl), hy, if_neg (by decide), if_neg (by decide), if_neg (by decide), if_neg (by decide), if_neg (by decide), if_neg (by decide), if_neg (by decide), if_neg (by decide), if_neg (by decide), if_neg (by decide), if_neg (by decide), if_neg (by decide), if_neg (by decide), if_neg (by decide), if_neg (by decide), if_neg (by decide), if_neg (by decide), if_neg (by decide), if_neg (by decide), if_neg (by decide), if_neg (by decide), if_neg (by decide), if_neg (by decide), if_neg (by decide), if_neg (by decide), if_neg (by decide), if_neg (by decide), if_pos (by decide)]
  rw [zob (rd37 (k := k + 1) (by omega) hL (zkp 1 (1 : Int32) (by decide))), zov rfl, zoc e1]
  (try dsimp only)
  rw [zob (rd37 (k := k + 1) (by omega) hL (zkp 1 (1 : Int32) (by decide))), zov rfl, zoc e2, if_pos rfl]
theorem zlb_29 (hX : zXw t X) (hc : zRc X I J r) (hm : zRm X I J) (hL : L ≤ 3584) (hk : k + 7 ≤ L) (ht : t ≤ 900) (hy : xs k &&& (31 : Int32) = zn 29) : zL0 L xs t k I J r := by
  obtain ⟨v, I1, J1, r1, I2, J2, X', e1, e2, w1, w2, w3⟩ := op_years (sc := (L + 1, xs)) hX ht (xs (k + 1)) (xs (k + 2)) (xs (k + 3)) I J r hc hm
  (try dsimp only at e1 e2)
  refine ⟨[], I2, J2, r1, X', ?_, w1, w2, w3⟩
  unfold zl_body
  rw [zob ln37, if_neg (by rw [end37 hL (by omega)]; omega), zob (rd37 (k := k) (by omega) hL rfl), hy, if_neg (by decide), if_neg (by decide), if_neg (by decide), if_neg (by decide), if_neg (by decide), if_neg (by decide), if_neg (by decide), if_neg (by decide), if_neg (by decide), if_neg (by decide), if_neg (by decide), if_neg (by decide), if_neg (by decide), if_neg (by decide), if_neg (by decide), if_neg (by decide), if_neg (by decide), if_neg (by decide), if_neg (by decide), if_neg (by decide), if_neg (by decide), if_neg (by decide), if_neg (by decide), if_neg (by decide), if_neg (by decide), if_neg (by decide), if_neg (by decide), if_neg (by decide), if_neg (by decide), if_pos (by decide)]
  rw [zob (rd37 (k := k + 1) (by omega) hL (zkp 1 (1 : Int32) (by decide))), zob (rd37 (k := k + 2) (by omega) hL (zkp 2 (2 : Int32) (by decide))), zob (rd37 (k := k + 3) (by omega) hL (zkp 3 (3 : Int32) (by decide))), zov rfl, zoc e1]
  (try dsimp only)
  rw [zob (rd37 (k := k + 1) (by omega) hL (zkp 1 (1 : Int32) (by decide))), zob (rd37 (k := k + 2) (by omega) hL (zkp 2 (2 : Int32) (by decide))), zob (rd37 (k := k + 3) (by omega) hL (zkp 3 (3 : Int32) (by decide))), zov rfl, zoc e2, if_pos rfl]
theorem zlb_30 (hX : zXw t X) (hc : zRc X I J r) (hm : zRm X I J) (hL : L ≤ 3584) (hk : k + 7 ≤ L) (hy : xs k &&& (31 : Int32) = zn 30) : zL0 L xs t k I J r := by
  obtain ⟨v, I1, J1, r1, I2, J2, X', e1, e2, w1, w2, w3⟩ := op_mark (sc := (L + 1, xs)) hX (xs (k + 1)) (!decide (xs (k + 2) = 0)) I J r hc hm
  (try dsimp only at e1 e2)
  refine ⟨[], I2, J2, r1, X', ?_, w1, w2, w3⟩
  unfold zl_body
  rw [zob ln37, if_neg (by rw [end37 hL (by omega)]; omega), zob (rd37 (k := k) (by omega) hL rfl), hy, if_neg (by decide), if_neg (by decide), if_neg (by decide), if_neg (by decide), if_neg (by decide), if_neg (by decide), if_neg (by decide), if_neg (by decide), if_neg (by decide), if_neg (by decide), if_neg (by decide), if_neg (by decide), if_neg (by decide), if_neg (by decide), if_neg (by decide), if_neg (by decide), if_neg (by decide), if_neg (by decide), if_neg (by decide), if_neg (by decide), if_neg (by decide), if_neg (by decide), if_neg (by decide), if_neg (by decide), if_neg (by decide), if_neg (by decide), if_neg (by decide), if_neg (by decide), if_neg (by decide), if_neg (by decide), if_pos (by decide)]
  rw [zob (rd37 (k := k + 1) (by omega) hL (zkp 1 (1 : Int32) (by decide))), zob (rd37 (k := k + 2) (by omega) hL (zkp 2 (2 : Int32) (by decide))), zol, zbool, zov rfl, zoc e1]
  (try dsimp only)
  rw [zob (rd37 (k := k + 1) (by omega) hL (zkp 1 (1 : Int32) (by decide))), zob (rd37 (k := k + 2) (by omega) hL (zkp 2 (2 : Int32) (by decide))), zol, zbool, zov rfl, zoc e2, if_pos rfl]
theorem zlb_31 (hX : zXw t X) (hc : zRc X I J r) (hm : zRm X I J) (hL : L ≤ 3584) (hk : k + 7 ≤ L) (ht : t ≤ 900) (hy : xs k &&& (31 : Int32) = zn 31) : zL0 L xs t k I J r := by
  obtain ⟨v, I1, J1, r1, I2, J2, X', e1, e2, w1, w2, w3⟩ := op_count (sc := (L + 1, xs)) hX ht (xs (k + 1)) I J r hc hm
  (try dsimp only at e1 e2)
  refine ⟨[], I2, J2, r1, X', ?_, w1, w2, w3⟩
  unfold zl_body
  rw [zob ln37, if_neg (by rw [end37 hL (by omega)]; omega), zob (rd37 (k := k) (by omega) hL rfl), hy, if_neg (by decide), if_neg (by decide), if_neg (by decide), if_neg (by decide), if_neg (by decide), if_neg (by decide), if_neg (by decide), if_neg (by decide), if_neg (by decide), if_neg (by decide), if_neg (by decide), if_neg (by decide), if_neg (by decide), if_neg (by decide), if_neg (by decide), if_neg (by decide), if_neg (by decide), if_neg (by decide), if_neg (by decide), if_neg (by decide), if_neg (by decide), if_neg (by decide), if_neg (by decide), if_neg (by decide), if_neg (by decide), if_neg (by decide), if_neg (by decide), if_neg (by decide), if_neg (by decide), if_neg (by decide), if_neg (by decide), if_pos (by decide)]
  rw [zob (rd37 (k := k + 1) (by omega) hL (zkp 1 (1 : Int32) (by decide))), zov rfl, zoc e1]
  (try dsimp only)
  rw [zob (rd37 (k := k + 1) (by omega) hL (zkp 1 (1 : Int32) (by decide))), zov rfl, zoc e2, if_pos rfl]
theorem zlb_28 (hL : L ≤ 3584) (hk : k + 7 ≤ L) (hy : xs k &&& (31 : Int32) = zn 28) : zl_body (L + 1, xs) (zn k) (zG I J r) = some ((3, [xs (k + 1), xs (k + 2), xs (k + 3)]), zG I J r) := by
  unfold zl_body
  rw [zob ln37, if_neg (by rw [end37 hL (by omega)]; omega), zob (rd37 (k := k) (by omega) hL rfl), hy, if_neg (by decide), if_neg (by decide), if_neg (by decide), if_neg (by decide), if_neg (by decide), if_neg (by decide), if_neg (by decide), if_neg (by decide), if_neg (by decide), if_neg (by decide), if_neg (by decide), if_neg (by decide), if_neg (by decide), if_neg (by decide), if_neg (by decide), if_neg (by decide), if_neg (by decide), if_neg (by decide), if_neg (by decide), if_neg (by decide), if_neg (by decide), if_neg (by decide), if_neg (by decide), if_neg (by decide), if_neg (by decide), if_neg (by decide), if_neg (by decide), if_neg (by decide), if_pos (by decide)]
  rw [zob (rd37 (k := k + 1) (by omega) hL (zkp 1 (1 : Int32) (by decide))), zob (rd37 (k := k + 2) (by omega) hL (zkp 2 (2 : Int32) (by decide))), zob (rd37 (k := k + 3) (by omega) hL (zkp 3 (3 : Int32) (by decide)))]
theorem zlb_e (hL : L ≤ 3584) (hk2 : k ≤ 3600) (hk : L < k + 7) : zl_body (L + 1, xs) (zn k) (zG I J r) = some ((2, []), zG I J r) := by
  unfold zl_body
  rw [zob ln37, if_pos ((end37 hL hk2).mpr hk)]
theorem zlb_all (hX : zXw t X) (hc : zRc X I J r) (hm : zRm X I J) (hL : L ≤ 3584) (hk : k + 7 ≤ L) (ht : t ≤ 900) : zL0 L xs t k I J r ∨ xs k &&& (31 : Int32) = zn 28 := by
  obtain ⟨c, hc32, hy⟩ := zand31 (xs k)
  rcases (by omega : c = 0 ∨ c = 1 ∨ c = 2 ∨ c = 3 ∨ c = 4 ∨ c = 5 ∨ c = 6 ∨ c = 7 ∨ c = 8 ∨ c = 9 ∨ c = 10 ∨ c = 11 ∨ c = 12 ∨ c = 13 ∨ c = 14 ∨ c = 15 ∨ c = 16 ∨ c = 17 ∨ c = 18 ∨ c = 19 ∨ c = 20 ∨ c = 21 ∨ c = 22 ∨ c = 23 ∨ c = 24 ∨ c = 25 ∨ c = 26 ∨ c = 27 ∨ c = 28 ∨ c = 29 ∨ c = 30 ∨ c = 31) with rfl | rfl | rfl | rfl | rfl | rfl | rfl | rfl | rfl | rfl | rfl | rfl | rfl | rfl | rfl | rfl | rfl | rfl | rfl | rfl | rfl | rfl | rfl | rfl | rfl | rfl | rfl | rfl | rfl | rfl | rfl | rfl
  · exact Or.inl (zlb_0 hX hc hm hL hk hy)
  · exact Or.inl (zlb_1 hX hc hm hL hk hy)
  · exact Or.inl (zlb_2 hX hc hm hL hk hy)
  · exact Or.inl (zlb_3 hX hc hm hL hk hy)
  · exact Or.inl (zlb_4 hX hc hm hL hk hy)
  · exact Or.inl (zlb_5 hX hc hm hL hk hy)
  · exact Or.inl (zlb_6 hX hc hm hL hk hy)
  · exact Or.inl (zlb_7 hX hc hm hL hk hy)
  · exact Or.inl (zlb_8 hX hc hm hL hk hy)
  · exact Or.inl (zlb_9 hX hc hm hL hk hy)
  · exact Or.inl (zlb_10 hX hc hm hL hk ht hy)
  · exact Or.inl (zlb_11 hX hc hm hL hk hy)
  · exact Or.inl (zlb_12 hX hc hm hL hk hy)
  · exact Or.inl (zlb_13 hX hc hm hL hk hy)
  · exact Or.inl (zlb_14 hX hc hm hL hk hy)
  · exact Or.inl (zlb_15 hX hc hm hL hk hy)
  · exact Or.inl (zlb_16 hX hc hm hL hk hy)
  · exact Or.inl (zlb_17 hX hc hm hL hk hy)
  · exact Or.inl (zlb_18 hX hc hm hL hk hy)
  · exact Or.inl (zlb_19 hX hc hm hL hk hy)
  · exact Or.inl (zlb_20 hX hc hm hL hk hy)
  · exact Or.inl (zlb_21 hX hc hm hL hk hy)
  · exact Or.inl (zlb_22 hX hc hm hL hk hy)
  · exact Or.inl (zlb_23 hX hc hm hL hk hy)
  · exact Or.inl (zlb_24 hX hc hm hL hk hy)
  · exact Or.inl (zlb_25 hX hc hm hL hk hy)
  · exact Or.inl (zlb_26 hX hc hm hL hk hy)
  · exact Or.inl (zlb_27 hX hc hm hL hk hy)
  · exact Or.inr hy
  · exact Or.inl (zlb_29 hX hc hm hL hk ht hy)
  · exact Or.inl (zlb_30 hX hc hm hL hk hy)
  · exact Or.inl (zlb_31 hX hc hm hL hk ht hy)
end ZL
