/-! all scripts, and the claim -/
theorem zlg_s (x : Int64) : lg_cmp x x = 0 := by
  unfold lg_cmp
  simp
section ZL
variable {L : Nat} {xs : Nat → Int32}
theorem zb2_n {I I2 : zII} {J : zJJ} {r : zRr} {k : Nat} (hL : L ≤ 3584) (hk : k + 7 ≤ L) (e : zm_rests (L + 1, xs) 216 (xs (k + 1)) (xs (k + 2)) (xs (k + 3)) (zG I J r) = some (zn 0, zG I2 J r)) (h0 : I2 216 0 = zn 1) : zl_bod2 (L + 1, xs) (zn k) 1 (zG I J r) = some (0, zG I2 J r) := by
  unfold zl_bod2
  rw [zob (rd37 (k := k + 1) (by omega) hL (zkp 1 (1 : Int32) (by decide))), zob (rd37 (k := k + 2) (by omega) hL (zkp 2 (2 : Int32) (by decide))), zob (rd37 (k := k + 3) (by omega) hL (zkp 3 (3 : Int32) (by decide))), zov rfl, zoc e, zov rfl, um_thrown, gI_216, h0]
  rw [zoc rfl, if_pos (by decide), if_neg (by decide)]
theorem zb2_s {I I2 : zII} {J : zJJ} {r : zRr} {k : Nat} {v : Int32} (hL : L ≤ 3584) (hk : k + 7 ≤ L) (e : zm_rests (L + 1, xs) 216 (xs (k + 1)) (xs (k + 2)) (xs (k + 3)) (zG I (zV J 243 0 v.toInt64) r) = some (v, zG I2 (zV J 243 0 v.toInt64) r)) (h0 : I2 216 0 = zn 0) : zl_bod2 (L + 1, xs) (zn k) 0 (zG I (zV J 243 0 v.toInt64) r) = some (0, zG I2 (zV J 243 0 v.toInt64) r) := by
  have hr : zq_rdL (zG I2 (zV J 243 0 v.toInt64) r) 243 (0 : Int32) = some v.toInt64 := by
    have := e_rdL (I := I2) (J := zV J 243 0 v.toInt64) (r := r) (o := 243) (n := 1) (k := 0) rfl (by decide) (by decide)
    rw [zV_eq] at this
    exact this
  unfold zl_bod2
  rw [zob (rd37 (k := k + 1) (by omega) hL (zkp 1 (1 : Int32) (by decide))), zob (rd37 (k := k + 2) (by omega) hL (zkp 2 (2 : Int32) (by decide))), zob (rd37 (k := k + 3) (by omega) hL (zkp 3 (3 : Int32) (by decide))), zov rfl, zoc e, zov rfl, um_thrown, gI_216, h0]
  rw [zoc rfl, if_pos (by decide), if_pos rfl, zob hr, if_pos (zlg_s _)]
theorem zp_go (hL : L ≤ 3584) : ∀ d j X I J r, 7 * (j + d) ≤ L → L < 7 * (j + d) + 7 → zXw j X → zRc X I J r → zRm X I J → zl_ok (L + 1, xs) d (zn (7 * j)) (zG I J r) := by
  intro d
  induction d with
  | zero =>
    intro j X I J r h1 h2 hX hc hm
    exact ⟨[], _, zlb_e hL (by omega) (by omega)⟩
  | succ d ih =>
    intro j X I J r h1 h2 hX hc hm
    have e7 : zn (7 * j) + 7 = zn (7 * (j + 1)) := by rw [zkp 7 (7 : Int32) (by decide)]; congr 1
    rcases zlb_all (xs := xs) (k := 7 * j) hX hc hm hL (by omega) (by omega) with ⟨vs, I2, J2, r2, X', e, w1, w2, w3⟩ | hy
    · refine ⟨zG I2 J2 r2, Or.inl ⟨vs, e⟩, ?_⟩
      rw [e7]
      exact ih (j + 1) X' I2 J2 r2 (by omega) (by omega) w1 w2 w3
    · have e28 := zlb_28 (I := I) (J := J) (r := r) (xs := xs) (k := 7 * j) hL (by omega) hy
      obtain ⟨ro, I1, e1, hre⟩ := op_rests (sc := (L + 1, xs)) hX (xs (7 * j + 1)) (xs (7 * j + 2)) (xs (7 * j + 3)) I J r hc hm
      cases ro with
      | none =>
        obtain ⟨I2, a1, a2, a3, a4⟩ := hre J (fun _ _ => rfl)
        refine ⟨zG I2 J r, Or.inr ⟨_, _, _, _, _, zG I1 J r, none, 1, e28, e1, ⟨rfl, rfl⟩, zb2_n hL (by omega) a1 a2⟩, ?_⟩
        rw [e7]
        exact ih (j + 1) X I2 J r (by omega) (by omega) (hX.mono (Nat.le_succ j)) a3 a4
      | some v =>
        obtain ⟨I2, a1, a2, a3, a4⟩ := hre (zV J 243 0 v.toInt64) (fun o ho => zV_ne ho)
        have ew : zq_wrL (zG I1 J r) 243 (0 : Int32) v.toInt64 = some (zG I1 (zV J 243 0 v.toInt64) r) := e_wrL (k := 0) (n := 1) rfl (by decide) (by decide)
        refine ⟨zG I2 (zV J 243 0 v.toInt64) r, Or.inr ⟨_, _, _, _, _, zG I1 (zV J 243 0 v.toInt64) r, some v, 0, e28, e1, ⟨rfl, ew⟩, zb2_s hL (by omega) a1 a2⟩, ?_⟩
        rw [e7]
        exact ih (j + 1) X I2 _ r (by omega) (by omega) (hX.mono (Nat.le_succ j)) a3 a4
end ZL
theorem zp_all : zp_main := by
  intro L xs hL
  refine ⟨L / 7, by omega, ?_⟩
  rw [zc_G]
  exact zp_go hL (L / 7) 0 (zX0 zc_D) zc_I zc_J zc_r (by omega) (by omega) (zX0_w zc_D_w 0) zc_Rc zc_Rm
theorem i_vc : Claimed_1_1 ∧ Claimed_1_2 := zw_claim zp_all
