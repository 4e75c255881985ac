/-! methods as functions, and their walks; printed by wip/whole/decomp.py -/
set_option maxRecDepth 4000 in
def zx_skill (sc : zX) (a0 : Nat) (a1 : Int32) (a2 : Int32) (h : zH) : Option (Int32 × zH) := zo_b (zo_gR h 9 a0 11) (fun v1 => zo_v h v1 0 (zx_Army_hasMan sc v1 a1 h) (fun v4 h3 => if v4 = 0 then (some ((-1 : Int32), h3)) else (zo_b (zo_gR h3 9 a0 11) (fun v8 => zo_v h3 v8 0 (zx_Army_hasPost sc v8 a2 h3) (fun v11 h10 => if v11 = 0 then (some ((-1 : Int32), h10)) else (zo_b (zo_gR h10 9 a0 11) (fun v15 => zo_v h10 v15 0 (zx_Army_skillOf sc v15 a1 a2 h10) (fun v18 h17 => some (v18, h17)))))))))
set_option maxRecDepth 4000 in
theorem zx_skill_ok (sc : zX) (d : Nat) (hd : 2 ≤ d) {a0 : Nat} {a1 : Int32} {a2 : Int32} {h : zH} {ro_ : Int32} {ho_ : zH} (hf : zx_skill sc a0 a1 a2 h = some (ro_, ho_)) : zq_wm sc d 72 [.ref a0, .int a1, .int a2] h (some (.int ro_), ho_) := by
  unfold zx_skill at hf
  obtain ⟨d, rfl⟩ : ∃ d', d = d' + 1 := ⟨d - 1, by omega⟩
  have hd : 1 ≤ d := by omega
  show zq_wp sc (d + 1) 72 0 [some (.ref a0), some (.int a1), some (.int a2)] [] h _
  refine zq_wg 1 (pc' := 1) (lv' := [some (.ref a0), some (.int a1), some (.int a2)]) (st' := [.ref a0]) (h' := h) rfl ?_
  obtain ⟨v1, e2, hf⟩ := zo_b_s hf
  refine zr_gR rfl rfl (by decide) rfl e2 ?_
  refine zq_wg 1 (pc' := 5) (lv' := [some (.ref a0), some (.int a1), some (.int a2)]) (st' := [.int a1, .ref v1]) (h' := h) rfl ?_
  obtain ⟨e6, v4, h3, e5, hf⟩ := zo_v_s hf
  refine zr_cv zq_m69 [.int a1] [] rfl rfl rfl rfl rfl (Nat.le_of_ble_eq_true rfl) (Nat.le_of_ble_eq_true rfl) e6 (zx_Army_hasMan_ok sc d (by omega) e5) ?_
  refine zq_wg 0 (pc' := 8) (lv' := [some (.ref a0), some (.int a1), some (.int a2)]) (st' := [.int v4]) (h' := h3) rfl ?_
  refine zr_if (v4 = 0) 34 11 (st' := []) rfl rfl (fun b7 => ?_) (fun b7 => ?_)
  · have hf := zo_t hf b7
    refine zq_wg 1 (pc' := 35) (lv' := [some (.ref a0), some (.int a1), some (.int a2)]) (st' := [.int (-1 : Int32)]) (h' := h3) rfl ?_
    exact zr_ri rfl rfl rfl hf
  · have hf := zo_f hf b7
    refine zq_wg 1 (pc' := 12) (lv' := [some (.ref a0), some (.int a1), some (.int a2)]) (st' := [.ref a0]) (h' := h3) rfl ?_
    obtain ⟨v8, e9, hf⟩ := zo_b_s hf
    refine zr_gR rfl rfl (by decide) rfl e9 ?_
    refine zq_wg 1 (pc' := 16) (lv' := [some (.ref a0), some (.int a1), some (.int a2)]) (st' := [.int a2, .ref v8]) (h' := h3) rfl ?_
    obtain ⟨e13, v11, h10, e12, hf⟩ := zo_v_s hf
    refine zr_cv zq_m66 [.int a2] [] rfl rfl rfl rfl rfl (Nat.le_of_ble_eq_true rfl) (Nat.le_of_ble_eq_true rfl) e13 (zx_Army_hasPost_ok sc d (by omega) e12) ?_
    refine zq_wg 0 (pc' := 19) (lv' := [some (.ref a0), some (.int a1), some (.int a2)]) (st' := [.int v11]) (h' := h10) rfl ?_
    refine zr_if (v11 = 0) 34 22 (st' := []) rfl rfl (fun b14 => ?_) (fun b14 => ?_)
    · have hf := zo_t hf b14
      refine zq_wg 1 (pc' := 35) (lv' := [some (.ref a0), some (.int a1), some (.int a2)]) (st' := [.int (-1 : Int32)]) (h' := h10) rfl ?_
      exact zr_ri rfl rfl rfl hf
    · have hf := zo_f hf b14
      refine zq_wg 1 (pc' := 23) (lv' := [some (.ref a0), some (.int a1), some (.int a2)]) (st' := [.ref a0]) (h' := h10) rfl ?_
      obtain ⟨v15, e16, hf⟩ := zo_b_s hf
      refine zr_gR rfl rfl (by decide) rfl e16 ?_
      refine zq_wg 2 (pc' := 28) (lv' := [some (.ref a0), some (.int a1), some (.int a2)]) (st' := [.int a2, .int a1, .ref v15]) (h' := h10) rfl ?_
      obtain ⟨e20, v18, h17, e19, hf⟩ := zo_v_s hf
      refine zr_cv zq_m68 [.int a1, .int a2] [] rfl rfl rfl rfl rfl (Nat.le_of_ble_eq_true rfl) (Nat.le_of_ble_eq_true rfl) e20 (zx_Army_skillOf_ok sc d (by omega) e19) ?_
      refine zq_wg 0 (pc' := 31) (lv' := [some (.ref a0), some (.int a1), some (.int a2)]) (st' := [.int v18]) (h' := h17) rfl ?_
      refine zq_wg 1 (pc' := 35) (lv' := [some (.ref a0), some (.int a1), some (.int a2)]) (st' := [.int v18]) (h' := h17) rfl ?_
      exact zr_ri rfl rfl rfl hf
set_option maxRecDepth 4000 in
def zx_Army_forceOf (sc : zX) (a0 : Nat) (a1 : Int32) (a2 : Int32) (h : zH) : Option (Int32 × zH) := zo_v h a0 0 (zx_Army_skillOf sc a0 a1 a2 h) (fun v2 h1 => zo_b (zo_gR h1 0 a0 8) (fun v5 => zo_c (zx_at sc v5 a2 h1) (fun v8 h7 => some ((v2 * v8), h7))))
set_option maxRecDepth 4000 in
theorem zx_Army_forceOf_ok (sc : zX) (d : Nat) (hd : 2 ≤ d) {a0 : Nat} {a1 : Int32} {a2 : Int32} {h : zH} {ro_ : Int32} {ho_ : zH} (hf : zx_Army_forceOf sc a0 a1 a2 h = some (ro_, ho_)) : zq_wm sc d 75 [.ref a0, .int a1, .int a2] h (some (.int ro_), ho_) := by
  unfold zx_Army_forceOf at hf
  obtain ⟨d, rfl⟩ : ∃ d', d = d' + 1 := ⟨d - 1, by omega⟩
  have hd : 1 ≤ d := by omega
  show zq_wp sc (d + 1) 75 0 [some (.ref a0), some (.int a1), some (.int a2)] [] h _
  refine zq_wg 3 (pc' := 3) (lv' := [some (.ref a0), some (.int a1), some (.int a2)]) (st' := [.int a2, .int a1, .ref a0]) (h' := h) rfl ?_
  obtain ⟨e4, v2, h1, e3, hf⟩ := zo_v_s hf
  refine zr_cv zq_m68 [.int a1, .int a2] [] rfl rfl rfl rfl rfl (Nat.le_of_ble_eq_true rfl) (Nat.le_of_ble_eq_true rfl) e4 (zx_Army_skillOf_ok sc d (by omega) e3) ?_
  refine zq_wg 0 (pc' := 6) (lv' := [some (.ref a0), some (.int a1), some (.int a2)]) (st' := [.int v2]) (h' := h1) rfl ?_
  refine zq_wg 1 (pc' := 7) (lv' := [some (.ref a0), some (.int a1), some (.int a2)]) (st' := [.ref a0, .int v2]) (h' := h1) rfl ?_
  obtain ⟨v5, e6, hf⟩ := zo_b_s hf
  refine zr_gR rfl rfl (by decide) rfl e6 ?_
  refine zq_wg 1 (pc' := 11) (lv' := [some (.ref a0), some (.int a1), some (.int a2)]) (st' := [.int a2, .ref v5, .int v2]) (h' := h1) rfl ?_
  obtain ⟨v8, h7, e9, hf⟩ := zo_c_s hf
  refine zr_cs zq_m12 [.ref v5, .int a2] [.int v2] rfl rfl (by decide) rfl rfl rfl (Nat.le_of_ble_eq_true rfl) (Nat.le_of_ble_eq_true rfl) (zx_at_ok sc d (by omega) e9) ?_
  refine zq_wg 0 (pc' := 14) (lv' := [some (.ref a0), some (.int a1), some (.int a2)]) (st' := [.int v8, .int v2]) (h' := h7) rfl ?_
  refine zq_wg 1 (pc' := 15) (lv' := [some (.ref a0), some (.int a1), some (.int a2)]) (st' := [.int (v2 * v8)]) (h' := h7) rfl ?_
  exact zr_ri rfl rfl rfl hf
set_option maxRecDepth 4000 in
def zx_Army_strength_l11 (sc : zX) : Nat → Nat → Nat → Int32 → Int32 → Int32 → zH → (Int32 → zH → Option (Int32 × zH)) → Option (Int32 × zH)
  | 0, _, _, _, _, _, _, _ => none
  | n + 1, y5, y6, y7, y8, y9, h10, k91 => zo_b (zo_gI h10 0 y5 0) (fun v11 => if v11 ≤ y9 then (k91 y8 h10) else (zo_l (fun (x14 : Nat) (x15 : Nat) (x16 : Int32) (x17 : Int32) (x18 : Int32) (h19 : zH) => zx_Army_strength_l11 sc n x14 x15 x16 x17 (x18 + (1 : Int32)) h19 k91) (fun j85_19 => if ((y7 >>> (y9 &&& 31)) &&& (1 : Int32)) = (1 : Int32) then (zo_c (zx_at sc y6 y9 h10) (fun v22 h21 => zo_v h21 y5 0 (zx_Army_forceOf sc y5 v22 y9 h21) (fun v25 h24 => zo_b (zo_gR h24 0 y5 7) (fun v28 => zo_c (zx_at sc v28 y9 h24) (fun v31 h30 => zo_l (fun (x33 : Nat) (x34 : Nat) (x35 : Int32) (x36 : Int32) (x37 : Int32) (x38 : Int32) (h39 : zH) => j85_19 x33 x34 x35 (x37 + x38) x36 h39) (fun j83_39 => if v31 = (2 : Int32) then (zo_b (zo_dv v25 (2 : Int32)) (fun v41 => j83_39 y5 y6 y7 y9 y8 v41 h30)) else (if v31 = (3 : Int32) then (j83_39 y5 y6 y7 y9 y8 (-v25) h30) else (j83_39 y5 y6 y7 y9 y8 v25 h30)))))))) else (j85_19 y5 y6 y7 y8 y9 h10))))
set_option maxRecDepth 4000 in
def zx_Army_strength (sc : zX) (a0 : Nat) (a1 : Nat) (h : zH) : Option (Int32 × zH) := zo_v h a0 0 (zx_Army_obeying sc a0 a1 h) (fun v2 h1 => zx_Army_strength_l11 sc zo_F a0 a1 v2 (0 : Int32) (0 : Int32) h1 (fun (x44 : Int32) (h45 : zH) => some ((if (0 : Int32) < x44 then x44 else (0 : Int32)), h45)))
set_option maxRecDepth 4000 in
theorem zx_Army_strength_l11_ok (sc : zX) (d : Nat) (hd : 2 ≤ d) : ∀ (n : Nat) (y5 : Nat) (y6 : Nat) (y7 : Int32) (y8 : Int32) (y9 : Int32) (h10 : zH) (k91 : Int32 → zH → Option (Int32 × zH)) (ro_ : Int32) (ho_ : zH), (∀ (z0 : Int32) (hz : zH), k91 z0 hz = some (ro_, ho_) → zq_wp sc (d + 1) 74 91 [none, none, none, some (.int z0), none, none, none] [] hz (some (.int ro_), ho_)) → zx_Army_strength_l11 sc n y5 y6 y7 y8 y9 h10 k91 = some (ro_, ho_) → zq_wp sc (d + 1) 74 11 [some (.ref y5), some (.ref y6), some (.int y7), some (.int y8), some (.int y9), none, none] [] h10 (some (.int ro_), ho_) := by
  intro n
  induction n with
  | zero => intro y5 y6 y7 y8 y9 h10 k91 ro_ ho_ hk91 hf; cases hf
  | succ n ih =>
    intro y5 y6 y7 y8 y9 h10 k91 ro_ ho_ hk91 hf
    refine zq_wg 2 (pc' := 14) (lv' := [some (.ref y5), some (.ref y6), some (.int y7), some (.int y8), some (.int y9), none, none]) (st' := [.ref y5, .int y9]) (h' := h10) rfl ?_
    obtain ⟨v11, e12, hf⟩ := zo_b_s hf
    refine zr_gI rfl rfl (by decide) rfl e12 ?_
    refine zr_if (v11 ≤ y9) 91 20 (st' := []) rfl rfl (fun b13 => ?_) (fun b13 => ?_)
    · have hf := zo_t hf b13
      refine zq_fg [none, none, none, some (.int y8), none, none, none] (zq_lvle_n (zq_lvle_n (zq_lvle_n (zq_lvle_s (zq_lvle_n (zq_lvle_s (zq_lvle_s zq_lvle_nil))))))) ?_
      exact hk91 y8 h10 hf
    · have hf := zo_f hf b13
      refine zq_wg 6 (pc' := 27) (lv' := [some (.ref y5), some (.ref y6), some (.int y7), some (.int y8), some (.int y9), none, none]) (st' := [.int (1 : Int32), .int ((y7 >>> (y9 &&& 31)) &&& (1 : Int32))]) (h' := h10) rfl ?_
      obtain ⟨j85_19, hjj85_19, hf⟩ := zo_lj hf
      have kj85_19 : ∀ (x14 : Nat) (x15 : Nat) (x16 : Int32) (x17 : Int32) (x18 : Int32) (h19 : zH), j85_19 x14 x15 x16 x17 x18 h19 = some (ro_, ho_) → zq_wp sc (d + 1) 74 85 [some (.ref x14), some (.ref x15), some (.int x16), some (.int x17), some (.int x18), none, none] [] h19 (some (.int ro_), ho_) := by
        intro x14 x15 x16 x17 x18 h19 hf
        rw [hjj85_19] at hf
        refine zq_wg 2 (pc' := 11) (lv' := [some (.ref x14), some (.ref x15), some (.int x16), some (.int x17), some (.int (x18 + (1 : Int32))), none, none]) (st' := []) (h' := h19) rfl ?_
        exact ih x14 x15 x16 x17 (x18 + (1 : Int32)) h19 _ _ _ hk91 hf
      refine zr_if (((y7 >>> (y9 &&& 31)) &&& (1 : Int32)) = (1 : Int32)) 30 85 (st' := []) rfl rfl (fun b20 => ?_) (fun b20 => ?_)
      · have hf := zo_t hf b20
        refine zq_wg 3 (pc' := 34) (lv' := [some (.ref y5), some (.ref y6), some (.int y7), some (.int y8), some (.int y9), none, none]) (st' := [.int y9, .ref y6, .ref y5]) (h' := h10) rfl ?_
        obtain ⟨v22, h21, e23, hf⟩ := zo_c_s hf
        refine zr_cs zq_m12 [.ref y6, .int y9] [.ref y5] rfl rfl (by decide) rfl rfl rfl (Nat.le_of_ble_eq_true rfl) (Nat.le_of_ble_eq_true rfl) (zx_at_ok sc d (by omega) e23) ?_
        refine zq_wg 0 (pc' := 37) (lv' := [some (.ref y5), some (.ref y6), some (.int y7), some (.int y8), some (.int y9), none, none]) (st' := [.int v22, .ref y5]) (h' := h21) rfl ?_
        refine zq_wg 1 (pc' := 39) (lv' := [some (.ref y5), some (.ref y6), some (.int y7), some (.int y8), some (.int y9), none, none]) (st' := [.int y9, .int v22, .ref y5]) (h' := h21) rfl ?_
        obtain ⟨e27, v25, h24, e26, hf⟩ := zo_v_s hf
        refine zr_cv zq_m75 [.int v22, .int y9] [] rfl rfl rfl rfl rfl (Nat.le_of_ble_eq_true rfl) (Nat.le_of_ble_eq_true rfl) e27 (zx_Army_forceOf_ok sc d (by omega) e26) ?_
        refine zq_wg 0 (pc' := 42) (lv' := [some (.ref y5), some (.ref y6), some (.int y7), some (.int y8), some (.int y9), none, none]) (st' := [.int v25]) (h' := h24) rfl ?_
        refine zq_wg 2 (pc' := 45) (lv' := [some (.ref y5), some (.ref y6), some (.int y7), some (.int y8), some (.int y9), some (.int v25), none]) (st' := [.ref y5]) (h' := h24) rfl ?_
        obtain ⟨v28, e29, hf⟩ := zo_b_s hf
        refine zr_gR rfl rfl (by decide) rfl e29 ?_
        refine zq_wg 1 (pc' := 50) (lv' := [some (.ref y5), some (.ref y6), some (.int y7), some (.int y8), some (.int y9), some (.int v25), none]) (st' := [.int y9, .ref v28]) (h' := h24) rfl ?_
        obtain ⟨v31, h30, e32, hf⟩ := zo_c_s hf
        refine zr_cs zq_m12 [.ref v28, .int y9] [] rfl rfl (by decide) rfl rfl rfl (Nat.le_of_ble_eq_true rfl) (Nat.le_of_ble_eq_true rfl) (zx_at_ok sc d (by omega) e32) ?_
        refine zq_wg 0 (pc' := 53) (lv' := [some (.ref y5), some (.ref y6), some (.int y7), some (.int y8), some (.int y9), some (.int v25), none]) (st' := [.int v31]) (h' := h30) rfl ?_
        refine zq_wg 4 (pc' := 59) (lv' := [some (.ref y5), some (.ref y6), some (.int y7), some (.int y8), some (.int y9), some (.int v25), some (.int v31)]) (st' := [.int (2 : Int32), .int v31, .int y8]) (h' := h30) rfl ?_
        obtain ⟨j83_39, hjj83_39, hf⟩ := zo_lj hf
        have kj83_39 : ∀ (x33 : Nat) (x34 : Nat) (x35 : Int32) (x36 : Int32) (x37 : Int32) (x38 : Int32) (h39 : zH), j83_39 x33 x34 x35 x36 x37 x38 h39 = some (ro_, ho_) → zq_wp sc (d + 1) 74 83 [some (.ref x33), some (.ref x34), some (.int x35), none, some (.int x36), none, none] [.int x38, .int x37] h39 (some (.int ro_), ho_) := by
          intro x33 x34 x35 x36 x37 x38 h39 hf
          rw [hjj83_39] at hf
          refine zq_wg 2 (pc' := 85) (lv' := [some (.ref x33), some (.ref x34), some (.int x35), some (.int (x37 + x38)), some (.int x36), none, none]) (st' := []) (h' := h39) rfl ?_
          exact kj85_19 x33 x34 x35 (x37 + x38) x36 h39 hf
        refine zr_if (v31 = (2 : Int32)) 62 69 (st' := [.int y8]) rfl rfl (fun b40 => ?_) (fun b40 => ?_)
        · have hf := zo_t hf b40
          refine zq_wg 2 (pc' := 65) (lv' := [some (.ref y5), some (.ref y6), some (.int y7), some (.int y8), some (.int y9), some (.int v25), some (.int v31)]) (st' := [.int (2 : Int32), .int v25, .int y8]) (h' := h30) rfl ?_
          obtain ⟨v41, e42, hf⟩ := zo_b_s hf
          refine zr_idiv rfl e42 ?_
          refine zq_wg 1 (pc' := 83) (lv' := [some (.ref y5), some (.ref y6), some (.int y7), some (.int y8), some (.int y9), some (.int v25), some (.int v31)]) (st' := [.int v41, .int y8]) (h' := h30) rfl ?_
          refine zq_fg [some (.ref y5), some (.ref y6), some (.int y7), none, some (.int y9), none, none] (zq_lvle_s (zq_lvle_s (zq_lvle_s (zq_lvle_n (zq_lvle_s (zq_lvle_n (zq_lvle_n zq_lvle_nil))))))) ?_
          exact kj83_39 y5 y6 y7 y9 y8 v41 h30 hf
        · have hf := zo_f hf b40
          refine zq_wg 2 (pc' := 72) (lv' := [some (.ref y5), some (.ref y6), some (.int y7), some (.int y8), some (.int y9), some (.int v25), some (.int v31)]) (st' := [.int (3 : Int32), .int v31, .int y8]) (h' := h30) rfl ?_
          refine zr_if (v31 = (3 : Int32)) 75 81 (st' := [.int y8]) rfl rfl (fun b43 => ?_) (fun b43 => ?_)
          · have hf := zo_t hf b43
            refine zq_wg 3 (pc' := 83) (lv' := [some (.ref y5), some (.ref y6), some (.int y7), some (.int y8), some (.int y9), some (.int v25), some (.int v31)]) (st' := [.int (-v25), .int y8]) (h' := h30) rfl ?_
            refine zq_fg [some (.ref y5), some (.ref y6), some (.int y7), none, some (.int y9), none, none] (zq_lvle_s (zq_lvle_s (zq_lvle_s (zq_lvle_n (zq_lvle_s (zq_lvle_n (zq_lvle_n zq_lvle_nil))))))) ?_
            exact kj83_39 y5 y6 y7 y9 y8 (-v25) h30 hf
          · have hf := zo_f hf b43
            refine zq_wg 1 (pc' := 83) (lv' := [some (.ref y5), some (.ref y6), some (.int y7), some (.int y8), some (.int y9), some (.int v25), some (.int v31)]) (st' := [.int v25, .int y8]) (h' := h30) rfl ?_
            refine zq_fg [some (.ref y5), some (.ref y6), some (.int y7), none, some (.int y9), none, none] (zq_lvle_s (zq_lvle_s (zq_lvle_s (zq_lvle_n (zq_lvle_s (zq_lvle_n (zq_lvle_n zq_lvle_nil))))))) ?_
            exact kj83_39 y5 y6 y7 y9 y8 v25 h30 hf
      · have hf := zo_f hf b20
        exact kj85_19 y5 y6 y7 y8 y9 h10 hf
set_option maxRecDepth 4000 in
theorem zx_Army_strength_ok (sc : zX) (d : Nat) (hd : 3 ≤ d) {a0 : Nat} {a1 : Nat} {h : zH} {ro_ : Int32} {ho_ : zH} (hf : zx_Army_strength sc a0 a1 h = some (ro_, ho_)) : zq_wm sc d 74 [.ref a0, .ref a1] h (some (.int ro_), ho_) := by
  unfold zx_Army_strength at hf
  obtain ⟨d, rfl⟩ : ∃ d', d = d' + 1 := ⟨d - 1, by omega⟩
  have hd : 2 ≤ d := by omega
  show zq_wp sc (d + 1) 74 0 [some (.ref a0), some (.ref a1), none, none, none, none, none] [] h _
  refine zq_wg 2 (pc' := 2) (lv' := [some (.ref a0), some (.ref a1), none, none, none, none, none]) (st' := [.ref a1, .ref a0]) (h' := h) rfl ?_
  obtain ⟨e4, v2, h1, e3, hf⟩ := zo_v_s hf
  refine zr_cv zq_m67 [.ref a1] [] rfl rfl rfl rfl rfl (Nat.le_of_ble_eq_true rfl) (Nat.le_of_ble_eq_true rfl) e4 (zx_Army_obeying_ok sc d (by omega) e3) ?_
  refine zq_wg 0 (pc' := 5) (lv' := [some (.ref a0), some (.ref a1), none, none, none, none, none]) (st' := [.int v2]) (h' := h1) rfl ?_
  refine zq_wg 5 (pc' := 11) (lv' := [some (.ref a0), some (.ref a1), some (.int v2), some (.int (0 : Int32)), some (.int (0 : Int32)), none, none]) (st' := []) (h' := h1) rfl ?_
  refine zx_Army_strength_l11_ok sc d hd zo_F a0 a1 v2 (0 : Int32) (0 : Int32) h1 _ _ _ ?_ hf
  · intro x44 h45 hf
    refine zq_wg 2 (pc' := 93) (lv' := [none, none, none, some (.int x44), none, none, none]) (st' := [.int x44, .int (0 : Int32)]) (h' := h45) rfl ?_
    refine zr_max rfl rfl (Nat.le_of_ble_eq_true rfl) ?_
    exact zr_ri rfl rfl rfl hf
set_option maxRecDepth 4000 in
def zx_ours (sc : zX) (a0 : Nat) (h : zH) : Option (Int32 × zH) := zo_b (zo_gR h 9 a0 11) (fun v1 => zo_b (zo_gR h 9 a0 1) (fun v3 => zo_b (zo_gR h 4 v3 0) (fun v5 => zo_v h v1 0 (zx_Army_strength sc v1 v5 h) (fun v8 h7 => some (v8, h7)))))
set_option maxRecDepth 4000 in
theorem zx_ours_ok (sc : zX) (d : Nat) (hd : 4 ≤ d) {a0 : Nat} {h : zH} {ro_ : Int32} {ho_ : zH} (hf : zx_ours sc a0 h = some (ro_, ho_)) : zq_wm sc d 73 [.ref a0] h (some (.int ro_), ho_) := by
  unfold zx_ours at hf
  obtain ⟨d, rfl⟩ : ∃ d', d = d' + 1 := ⟨d - 1, by omega⟩
  have hd : 3 ≤ d := by omega
  show zq_wp sc (d + 1) 73 0 [some (.ref a0)] [] h _
  refine zq_wg 1 (pc' := 1) (lv' := [some (.ref a0)]) (st' := [.ref a0]) (h' := h) rfl ?_
  obtain ⟨v1, e2, hf⟩ := zo_b_s hf
  refine zr_gR rfl rfl (by decide) rfl e2 ?_
  refine zq_wg 1 (pc' := 5) (lv' := [some (.ref a0)]) (st' := [.ref a0, .ref v1]) (h' := h) rfl ?_
  obtain ⟨v3, e4, hf⟩ := zo_b_s hf
  refine zr_gR rfl rfl (by decide) rfl e4 ?_
  obtain ⟨v5, e6, hf⟩ := zo_b_s hf
  refine zr_gR rfl rfl (by decide) rfl e6 ?_
  obtain ⟨e10, v8, h7, e9, hf⟩ := zo_v_s hf
  refine zr_cv zq_m74 [.ref v5] [] rfl rfl rfl rfl rfl (Nat.le_of_ble_eq_true rfl) (Nat.le_of_ble_eq_true rfl) e10 (zx_Army_strength_ok sc d (by omega) e9) ?_
  refine zq_wg 0 (pc' := 14) (lv' := [some (.ref a0)]) (st' := [.int v8]) (h' := h7) rfl ?_
  exact zr_ri rfl rfl rfl hf
set_option maxRecDepth 4000 in
def zx_State_copyFrom_l2 (sc : zX) : Nat → Nat → Nat → Int32 → zH → (Nat → Nat → zH → Option (Unit × zH)) → Option (Unit × zH)
  | 0, _, _, _, _, _ => none
  | n + 1, y1, y2, y3, h4, k46 => if (6 : Int32) ≤ y3 then (k46 y1 y2 h4) else (zo_b (zo_gR h4 4 y1 0) (fun v6 => zo_b (zo_gR h4 4 y2 0) (fun v8 => zo_c (zx_at sc v8 y3 h4) (fun v11 h10 => zo_c (zx_put sc v6 y3 v11 h10) (fun w14 h13 => zo_b (zo_gR h13 4 y1 1) (fun v16 => zo_b (zo_gR h13 4 y2 1) (fun v18 => zo_c (zx_at sc v18 y3 h13) (fun v21 h20 => zo_c (zx_put sc v16 y3 v21 h20) (fun w24 h23 => zx_State_copyFrom_l2 sc n y1 y2 (y3 + (1 : Int32)) h23 k46)))))))))
set_option maxRecDepth 4000 in
def zx_State_copyFrom (sc : zX) (a0 : Nat) (a1 : Nat) (h : zH) : Option (Unit × zH) := zx_State_copyFrom_l2 sc zo_F a0 a1 (0 : Int32) h (fun (x26 : Nat) (x27 : Nat) (h28 : zH) => zo_b (zo_gI h28 4 x27 2) (fun v29 => zo_b (zo_pI h28 4 x26 2 v29) (fun h31 => zo_b (zo_gI h31 4 x27 3) (fun v33 => zo_b (zo_pI h31 4 x26 3 v33) (fun h35 => zo_b (zo_gI h35 4 x27 4) (fun v37 => zo_b (zo_pI h35 4 x26 4 v37) (fun h39 => zo_b (zo_gI h39 4 x27 5) (fun v41 => zo_b (zo_pB h39 4 x26 5 v41) (fun h43 => some ((), h43))))))))))
set_option maxRecDepth 4000 in
theorem zx_State_copyFrom_l2_ok (sc : zX) (d : Nat) (hd : 0 ≤ d) : ∀ (n : Nat) (y1 : Nat) (y2 : Nat) (y3 : Int32) (h4 : zH) (k46 : Nat → Nat → zH → Option (Unit × zH)) (ro_ : Unit) (ho_ : zH), (∀ (z0 : Nat) (z1 : Nat) (hz : zH), k46 z0 z1 hz = some (ro_, ho_) → zq_wp sc (d + 1) 78 46 [some (.ref z0), some (.ref z1), none] [] hz (none, ho_)) → zx_State_copyFrom_l2 sc n y1 y2 y3 h4 k46 = some (ro_, ho_) → zq_wp sc (d + 1) 78 2 [some (.ref y1), some (.ref y2), some (.int y3)] [] h4 (none, ho_) := by
  intro n
  induction n with
  | zero => intro y1 y2 y3 h4 k46 ro_ ho_ hk46 hf; cases hf
  | succ n ih =>
    intro y1 y2 y3 h4 k46 ro_ ho_ hk46 hf
    refine zq_wg 2 (pc' := 5) (lv' := [some (.ref y1), some (.ref y2), some (.int y3)]) (st' := [.int (6 : Int32), .int y3]) (h' := h4) rfl ?_
    refine zr_if ((6 : Int32) ≤ y3) 46 8 (st' := []) rfl rfl (fun b5 => ?_) (fun b5 => ?_)
    · have hf := zo_t hf b5
      refine zq_fg [some (.ref y1), some (.ref y2), none] (zq_lvle_s (zq_lvle_s (zq_lvle_n zq_lvle_nil))) ?_
      exact hk46 y1 y2 h4 hf
    · have hf := zo_f hf b5
      refine zq_wg 1 (pc' := 9) (lv' := [some (.ref y1), some (.ref y2), some (.int y3)]) (st' := [.ref y1]) (h' := h4) rfl ?_
      obtain ⟨v6, e7, hf⟩ := zo_b_s hf
      refine zr_gR rfl rfl (by decide) rfl e7 ?_
      refine zq_wg 2 (pc' := 14) (lv' := [some (.ref y1), some (.ref y2), some (.int y3)]) (st' := [.ref y2, .int y3, .ref v6]) (h' := h4) rfl ?_
      obtain ⟨v8, e9, hf⟩ := zo_b_s hf
      refine zr_gR rfl rfl (by decide) rfl e9 ?_
      refine zq_wg 1 (pc' := 18) (lv' := [some (.ref y1), some (.ref y2), some (.int y3)]) (st' := [.int y3, .ref v8, .int y3, .ref v6]) (h' := h4) rfl ?_
      obtain ⟨v11, h10, e12, hf⟩ := zo_c_s hf
      refine zr_cs zq_m12 [.ref v8, .int y3] [.int y3, .ref v6] rfl rfl (by decide) rfl rfl rfl (Nat.le_of_ble_eq_true rfl) (Nat.le_of_ble_eq_true rfl) (zx_at_ok sc d (by omega) e12) ?_
      refine zq_wg 0 (pc' := 21) (lv' := [some (.ref y1), some (.ref y2), some (.int y3)]) (st' := [.int v11, .int y3, .ref v6]) (h' := h10) rfl ?_
      obtain ⟨w14, h13, e15, hf⟩ := zo_c_s hf
      refine zr_cs zq_m11 [.ref v6, .int y3, .int v11] [] rfl rfl (by decide) rfl rfl rfl (Nat.le_of_ble_eq_true rfl) (Nat.le_of_ble_eq_true rfl) (zx_put_ok sc d (by omega) e15) ?_
      refine zq_wg 0 (pc' := 24) (lv' := [some (.ref y1), some (.ref y2), some (.int y3)]) (st' := []) (h' := h13) rfl ?_
      refine zq_wg 1 (pc' := 25) (lv' := [some (.ref y1), some (.ref y2), some (.int y3)]) (st' := [.ref y1]) (h' := h13) rfl ?_
      obtain ⟨v16, e17, hf⟩ := zo_b_s hf
      refine zr_gR rfl rfl (by decide) rfl e17 ?_
      refine zq_wg 2 (pc' := 30) (lv' := [some (.ref y1), some (.ref y2), some (.int y3)]) (st' := [.ref y2, .int y3, .ref v16]) (h' := h13) rfl ?_
      obtain ⟨v18, e19, hf⟩ := zo_b_s hf
      refine zr_gR rfl rfl (by decide) rfl e19 ?_
      refine zq_wg 1 (pc' := 34) (lv' := [some (.ref y1), some (.ref y2), some (.int y3)]) (st' := [.int y3, .ref v18, .int y3, .ref v16]) (h' := h13) rfl ?_
      obtain ⟨v21, h20, e22, hf⟩ := zo_c_s hf
      refine zr_cs zq_m12 [.ref v18, .int y3] [.int y3, .ref v16] rfl rfl (by decide) rfl rfl rfl (Nat.le_of_ble_eq_true rfl) (Nat.le_of_ble_eq_true rfl) (zx_at_ok sc d (by omega) e22) ?_
      refine zq_wg 0 (pc' := 37) (lv' := [some (.ref y1), some (.ref y2), some (.int y3)]) (st' := [.int v21, .int y3, .ref v16]) (h' := h20) rfl ?_
      obtain ⟨w24, h23, e25, hf⟩ := zo_c_s hf
      refine zr_cs zq_m11 [.ref v16, .int y3, .int v21] [] rfl rfl (by decide) rfl rfl rfl (Nat.le_of_ble_eq_true rfl) (Nat.le_of_ble_eq_true rfl) (zx_put_ok sc d (by omega) e25) ?_
      refine zq_wg 0 (pc' := 40) (lv' := [some (.ref y1), some (.ref y2), some (.int y3)]) (st' := []) (h' := h23) rfl ?_
      refine zq_wg 2 (pc' := 2) (lv' := [some (.ref y1), some (.ref y2), some (.int (y3 + (1 : Int32)))]) (st' := []) (h' := h23) rfl ?_
      exact ih y1 y2 (y3 + (1 : Int32)) h23 _ _ _ hk46 hf
set_option maxRecDepth 4000 in
theorem zx_State_copyFrom_ok (sc : zX) (d : Nat) (hd : 1 ≤ d) {a0 : Nat} {a1 : Nat} {h : zH} {ro_ : Unit} {ho_ : zH} (hf : zx_State_copyFrom sc a0 a1 h = some (ro_, ho_)) : zq_wm sc d 78 [.ref a0, .ref a1] h (none, ho_) := by
  unfold zx_State_copyFrom at hf
  obtain ⟨d, rfl⟩ : ∃ d', d = d' + 1 := ⟨d - 1, by omega⟩
  have hd : 0 ≤ d := by omega
  show zq_wp sc (d + 1) 78 0 [some (.ref a0), some (.ref a1), none] [] h _
  refine zq_wg 2 (pc' := 2) (lv' := [some (.ref a0), some (.ref a1), some (.int (0 : Int32))]) (st' := []) (h' := h) rfl ?_
  refine zx_State_copyFrom_l2_ok sc d hd zo_F a0 a1 (0 : Int32) h _ _ _ ?_ hf
  · intro x26 x27 h28 hf
    refine zq_wg 2 (pc' := 48) (lv' := [some (.ref x26), some (.ref x27), none]) (st' := [.ref x27, .ref x26]) (h' := h28) rfl ?_
    obtain ⟨v29, e30, hf⟩ := zo_b_s hf
    refine zr_gI rfl rfl (by decide) rfl e30 ?_
    obtain ⟨h31, e32, hf⟩ := zo_b_s hf
    refine zr_pI rfl rfl (by decide) rfl rfl e32 ?_
    refine zq_wg 2 (pc' := 56) (lv' := [some (.ref x26), some (.ref x27), none]) (st' := [.ref x27, .ref x26]) (h' := h31) rfl ?_
    obtain ⟨v33, e34, hf⟩ := zo_b_s hf
    refine zr_gI rfl rfl (by decide) rfl e34 ?_
    obtain ⟨h35, e36, hf⟩ := zo_b_s hf
    refine zr_pI rfl rfl (by decide) rfl rfl e36 ?_
    refine zq_wg 2 (pc' := 64) (lv' := [some (.ref x26), some (.ref x27), none]) (st' := [.ref x27, .ref x26]) (h' := h35) rfl ?_
    obtain ⟨v37, e38, hf⟩ := zo_b_s hf
    refine zr_gI rfl rfl (by decide) rfl e38 ?_
    obtain ⟨h39, e40, hf⟩ := zo_b_s hf
    refine zr_pI rfl rfl (by decide) rfl rfl e40 ?_
    refine zq_wg 2 (pc' := 72) (lv' := [some (.ref x26), some (.ref x27), none]) (st' := [.ref x27, .ref x26]) (h' := h39) rfl ?_
    obtain ⟨v41, e42, hf⟩ := zo_b_s hf
    refine zr_gI rfl rfl (by decide) rfl e42 ?_
    obtain ⟨h43, e44, hf⟩ := zo_b_s hf
    refine zr_pB rfl rfl (by decide) rfl rfl e44 ?_
    exact zr_rv rfl rfl hf
set_option maxRecDepth 4000 in
def zx_remember (sc : zX) (a0 : Nat) (h : zH) : Option (Unit × zH) := zo_b (zo_gI h 9 a0 16) (fun v1 => zo_l (fun (x3 : Nat) (h4 : zH) => zo_b (zo_gR h4 9 x3 7) (fun v5 => zo_b (zo_gI h4 9 x3 16) (fun v7 => zo_b (zo_rdR h4 v5 v7) (fun v9 => zo_b (zo_gR h4 9 x3 1) (fun v11 => zo_v h4 v9 4 (zx_State_copyFrom sc v9 v11 h4) (fun w14 h13 => zo_b (zo_gI h13 9 x3 16) (fun v17 => zo_b (zo_rm (v17 + (1 : Int32)) (16 : Int32)) (fun v19 => zo_b (zo_pI h13 9 x3 16 v19) (fun h21 => zo_b (zo_gI h21 9 x3 15) (fun v23 => zo_b (zo_pI h21 9 x3 15 (if (16 : Int32) < (v23 + (1 : Int32)) then (16 : Int32) else (v23 + (1 : Int32)))) (fun h25 => some ((), h25)))))))))))) (fun j21_4 => zo_l (fun (x27 : Nat) (h28 : zH) => zo_b (zo_pI h28 9 x27 16 (0 : Int32)) (fun h29 => j21_4 x27 h29)) (fun j16_28 => if v1 < 0 then (j16_28 a0 h) else (zo_b (zo_gI h 9 a0 16) (fun v32 => if v32 < (16 : Int32) then (j21_4 a0 h) else (j16_28 a0 h))))))
set_option maxRecDepth 4000 in
theorem zx_remember_ok (sc : zX) (d : Nat) (hd : 2 ≤ d) {a0 : Nat} {h : zH} {ro_ : Unit} {ho_ : zH} (hf : zx_remember sc a0 h = some (ro_, ho_)) : zq_wm sc d 77 [.ref a0] h (none, ho_) := by
  unfold zx_remember at hf
  obtain ⟨d, rfl⟩ : ∃ d', d = d' + 1 := ⟨d - 1, by omega⟩
  have hd : 1 ≤ d := by omega
  show zq_wp sc (d + 1) 77 0 [some (.ref a0)] [] h _
  refine zq_wg 1 (pc' := 1) (lv' := [some (.ref a0)]) (st' := [.ref a0]) (h' := h) rfl ?_
  obtain ⟨v1, e2, hf⟩ := zo_b_s hf
  refine zr_gI rfl rfl (by decide) rfl e2 ?_
  obtain ⟨j21_4, hjj21_4, hf⟩ := zo_lj hf
  have kj21_4 : ∀ (x3 : Nat) (h4 : zH), j21_4 x3 h4 = some (ro_, ho_) → zq_wp sc (d + 1) 77 21 [some (.ref x3)] [] h4 (none, ho_) := by
    intro x3 h4 hf
    rw [hjj21_4] at hf
    refine zq_wg 1 (pc' := 22) (lv' := [some (.ref x3)]) (st' := [.ref x3]) (h' := h4) rfl ?_
    obtain ⟨v5, e6, hf⟩ := zo_b_s hf
    refine zr_gR rfl rfl (by decide) rfl e6 ?_
    refine zq_wg 1 (pc' := 26) (lv' := [some (.ref x3)]) (st' := [.ref x3, .ref v5]) (h' := h4) rfl ?_
    obtain ⟨v7, e8, hf⟩ := zo_b_s hf
    refine zr_gI rfl rfl (by decide) rfl e8 ?_
    obtain ⟨v9, e10, hf⟩ := zo_b_s hf
    refine zr_aald rfl e10 ?_
    refine zq_wg 1 (pc' := 31) (lv' := [some (.ref x3)]) (st' := [.ref x3, .ref v9]) (h' := h4) rfl ?_
    obtain ⟨v11, e12, hf⟩ := zo_b_s hf
    refine zr_gR rfl rfl (by decide) rfl e12 ?_
    obtain ⟨e16, w14, h13, e15, hf⟩ := zo_v_s hf
    refine zr_cv zq_m78 [.ref v11] [] rfl rfl rfl rfl rfl (Nat.le_of_ble_eq_true rfl) (Nat.le_of_ble_eq_true rfl) e16 (zx_State_copyFrom_ok sc d (by omega) e15) ?_
    refine zq_wg 0 (pc' := 37) (lv' := [some (.ref x3)]) (st' := []) (h' := h13) rfl ?_
    refine zq_wg 2 (pc' := 39) (lv' := [some (.ref x3)]) (st' := [.ref x3, .ref x3]) (h' := h13) rfl ?_
    obtain ⟨v17, e18, hf⟩ := zo_b_s hf
    refine zr_gI rfl rfl (by decide) rfl e18 ?_
    refine zq_wg 3 (pc' := 46) (lv' := [some (.ref x3)]) (st' := [.int (16 : Int32), .int (v17 + (1 : Int32)), .ref x3]) (h' := h13) rfl ?_
    obtain ⟨v19, e20, hf⟩ := zo_b_s hf
    refine zr_irem rfl e20 ?_
    obtain ⟨h21, e22, hf⟩ := zo_b_s hf
    refine zr_pI rfl rfl (by decide) rfl rfl e22 ?_
    refine zq_wg 2 (pc' := 52) (lv' := [some (.ref x3)]) (st' := [.ref x3, .ref x3]) (h' := h21) rfl ?_
    obtain ⟨v23, e24, hf⟩ := zo_b_s hf
    refine zr_gI rfl rfl (by decide) rfl e24 ?_
    refine zq_wg 3 (pc' := 59) (lv' := [some (.ref x3)]) (st' := [.int (16 : Int32), .int (v23 + (1 : Int32)), .ref x3]) (h' := h21) rfl ?_
    refine zr_min rfl rfl (Nat.le_of_ble_eq_true rfl) ?_
    obtain ⟨h25, e26, hf⟩ := zo_b_s hf
    refine zr_pI rfl rfl (by decide) rfl rfl e26 ?_
    exact zr_rv rfl rfl hf
  obtain ⟨j16_28, hjj16_28, hf⟩ := zo_lj hf
  have kj16_28 : ∀ (x27 : Nat) (h28 : zH), j16_28 x27 h28 = some (ro_, ho_) → zq_wp sc (d + 1) 77 16 [some (.ref x27)] [] h28 (none, ho_) := by
    intro x27 h28 hf
    rw [hjj16_28] at hf
    refine zq_wg 2 (pc' := 18) (lv' := [some (.ref x27)]) (st' := [.int (0 : Int32), .ref x27]) (h' := h28) rfl ?_
    obtain ⟨h29, e30, hf⟩ := zo_b_s hf
    refine zr_pI rfl rfl (by decide) rfl rfl e30 ?_
    exact kj21_4 x27 h29 hf
  refine zr_if (v1 < 0) 16 7 (st' := []) rfl rfl (fun b31 => ?_) (fun b31 => ?_)
  · have hf := zo_t hf b31
    exact kj16_28 a0 h hf
  · have hf := zo_f hf b31
    refine zq_wg 1 (pc' := 8) (lv' := [some (.ref a0)]) (st' := [.ref a0]) (h' := h) rfl ?_
    obtain ⟨v32, e33, hf⟩ := zo_b_s hf
    refine zr_gI rfl rfl (by decide) rfl e33 ?_
    refine zq_wg 1 (pc' := 13) (lv' := [some (.ref a0)]) (st' := [.int (16 : Int32), .int v32]) (h' := h) rfl ?_
    refine zr_if (v32 < (16 : Int32)) 21 16 (st' := []) rfl rfl (fun b34 => ?_) (fun b34 => ?_)
    · have hf := zo_t hf b34
      exact kj21_4 a0 h hf
    · have hf := zo_f hf b34
      exact kj16_28 a0 h hf
set_option maxRecDepth 4000 in
def zx_Raffle_sow (sc : zX) (a0 : Nat) (a1 : Int32) (h : zH) : Option (Unit × zH) := zo_b (zo_pL h 3 a0 0 a1.toInt64) (fun h1 => some ((), h1))
set_option maxRecDepth 4000 in
theorem zx_Raffle_sow_ok (sc : zX) (d : Nat) (hd : 0 ≤ d) {a0 : Nat} {a1 : Int32} {h : zH} {ro_ : Unit} {ho_ : zH} (hf : zx_Raffle_sow sc a0 a1 h = some (ro_, ho_)) : zq_wm sc d 79 [.ref a0, .int a1] h (none, ho_) := by
  unfold zx_Raffle_sow at hf
  show zq_wp sc d 79 0 [some (.ref a0), some (.int a1)] [] h _
  refine zq_wg 3 (pc' := 3) (lv' := [some (.ref a0), some (.int a1)]) (st' := [.long a1.toInt64, .ref a0]) (h' := h) rfl ?_
  obtain ⟨h1, e2, hf⟩ := zo_b_s hf
  refine zr_pL rfl rfl (by decide) rfl rfl e2 ?_
  exact zr_rv rfl rfl hf
set_option maxRecDepth 4000 in
def zx_Raffle_below (sc : zX) (a0 : Nat) (a1 : Int32) (h : zH) : Option (Int32 × zH) := zo_b (zo_gL h 3 a0 0) (fun v1 => zo_b (zo_rmL ((v1 * (1103515245 : Int64)) + (12345 : Int64)) (2147483648 : Int64)) (fun v3 => zo_b (zo_pL h 3 a0 0 v3) (fun h5 => if a1 ≤ 0 then (some ((0 : Int32), h5)) else (zo_b (zo_gL h5 3 a0 0) (fun v8 => zo_b (zo_dvL v8 (65536 : Int64)) (fun v10 => zo_b (zo_rmL v10 a1.toInt64) (fun v12 => some (v12.toInt32, h5))))))))
set_option maxRecDepth 4000 in
theorem zx_Raffle_below_ok (sc : zX) (d : Nat) (hd : 0 ≤ d) {a0 : Nat} {a1 : Int32} {h : zH} {ro_ : Int32} {ho_ : zH} (hf : zx_Raffle_below sc a0 a1 h = some (ro_, ho_)) : zq_wm sc d 81 [.ref a0, .int a1] h (some (.int ro_), ho_) := by
  unfold zx_Raffle_below at hf
  show zq_wp sc d 81 0 [some (.ref a0), some (.int a1)] [] h _
  refine zq_wg 2 (pc' := 2) (lv' := [some (.ref a0), some (.int a1)]) (st' := [.ref a0, .ref a0]) (h' := h) rfl ?_
  obtain ⟨v1, e2, hf⟩ := zo_b_s hf
  refine zr_gL rfl rfl (by decide) rfl e2 ?_
  refine zq_wg 5 (pc' := 16) (lv' := [some (.ref a0), some (.int a1)]) (st' := [.long (2147483648 : Int64), .long ((v1 * (1103515245 : Int64)) + (12345 : Int64)), .ref a0]) (h' := h) rfl ?_
  obtain ⟨v3, e4, hf⟩ := zo_b_s hf
  refine zr_lrem rfl e4 ?_
  obtain ⟨h5, e6, hf⟩ := zo_b_s hf
  refine zr_pL rfl rfl (by decide) rfl rfl e6 ?_
  refine zq_wg 1 (pc' := 21) (lv' := [some (.ref a0), some (.int a1)]) (st' := [.int a1]) (h' := h5) rfl ?_
  refine zr_if (a1 ≤ 0) 39 24 (st' := []) rfl rfl (fun b7 => ?_) (fun b7 => ?_)
  · have hf := zo_t hf b7
    refine zq_wg 1 (pc' := 40) (lv' := [some (.ref a0), some (.int a1)]) (st' := [.int (0 : Int32)]) (h' := h5) rfl ?_
    exact zr_ri rfl rfl rfl hf
  · have hf := zo_f hf b7
    refine zq_wg 1 (pc' := 25) (lv' := [some (.ref a0), some (.int a1)]) (st' := [.ref a0]) (h' := h5) rfl ?_
    obtain ⟨v8, e9, hf⟩ := zo_b_s hf
    refine zr_gL rfl rfl (by decide) rfl e9 ?_
    refine zq_wg 1 (pc' := 31) (lv' := [some (.ref a0), some (.int a1)]) (st' := [.long (65536 : Int64), .long v8]) (h' := h5) rfl ?_
    obtain ⟨v10, e11, hf⟩ := zo_b_s hf
    refine zr_ldiv rfl e11 ?_
    refine zq_wg 2 (pc' := 34) (lv' := [some (.ref a0), some (.int a1)]) (st' := [.long a1.toInt64, .long v10]) (h' := h5) rfl ?_
    obtain ⟨v12, e13, hf⟩ := zo_b_s hf
    refine zr_lrem rfl e13 ?_
    refine zq_wg 2 (pc' := 40) (lv' := [some (.ref a0), some (.int a1)]) (st' := [.int v12.toInt32]) (h' := h5) rfl ?_
    exact zr_ri rfl rfl rfl hf
set_option maxRecDepth 4000 in
def zx_Raffle_deal_l2 (sc : zX) : Nat → Nat → Nat → Nat → Int32 → zH → (Nat → Nat → Nat → zH → Option (Unit × zH)) → Option (Unit × zH)
  | 0, _, _, _, _, _, _ => none
  | n + 1, y1, y2, y3, y4, h5, k25 => zo_b (zo_gI h5 0 y2 1) (fun v6 => if v6 ≤ y4 then (k25 y1 y2 y3 h5) else (zo_b (zo_gR h5 3 y1 1) (fun v9 => zo_c (zx_put sc v9 y4 y4 h5) (fun w12 h11 => zx_Raffle_deal_l2 sc n y1 y2 y3 (y4 + (1 : Int32)) h11 k25))))
set_option maxRecDepth 4000 in
def zx_Raffle_deal_l32 (sc : zX) : Nat → Nat → Nat → Nat → Int32 → zH → (Nat → Nat → Nat → zH → Option (Unit × zH)) → Option (Unit × zH)
  | 0, _, _, _, _, _, _ => none
  | n + 1, y20, y21, y22, y23, h24, k89 => if y23 ≤ 0 then (k89 y20 y21 y22 h24) else (zo_v h24 y20 3 (zx_Raffle_below sc y20 (y23 + (1 : Int32)) h24) (fun v27 h26 => zo_b (zo_gR h26 3 y20 1) (fun v30 => zo_c (zx_at sc v30 y23 h26) (fun v33 h32 => zo_b (zo_gR h32 3 y20 1) (fun v35 => zo_b (zo_gR h32 3 y20 1) (fun v37 => zo_c (zx_at sc v37 v27 h32) (fun v40 h39 => zo_c (zx_put sc v35 y23 v40 h39) (fun w43 h42 => zo_b (zo_gR h42 3 y20 1) (fun v45 => zo_c (zx_put sc v45 v27 v33 h42) (fun w48 h47 => zx_Raffle_deal_l32 sc n y20 y21 y22 (y23 + (-1 : Int32)) h47 k89))))))))))
set_option maxRecDepth 4000 in
def zx_Raffle_deal_l91 (sc : zX) : Nat → Nat → Nat → Nat → Int32 → zH → (Nat → zH → Option (Unit × zH)) → Option (Unit × zH)
  | 0, _, _, _, _, _, _ => none
  | n + 1, y54, y55, y56, y57, h58, k151 => if (6 : Int32) ≤ y57 then (k151 y56 h58) else (zo_b (zo_gI h58 0 y55 0) (fun v60 => zo_l (fun (x62 : Nat) (x63 : Nat) (x64 : Nat) (x65 : Int32) (x66 : Int32) (h67 : zH) => zo_b (zo_gR h67 4 x64 0) (fun v68 => zo_l (fun (x70 : Nat) (x71 : Nat) (x72 : Nat) (x73 : Int32) (x74 : Nat) (x75 : Int32) (x76 : Int32) (h77 : zH) => zo_c (zx_put sc x74 x75 x76 h77) (fun w79 h78 => zx_Raffle_deal_l91 sc n x70 x71 x72 (x73 + (1 : Int32)) h78 k151)) (fun j142_77 => if x66 = 0 then (j142_77 x62 x63 x64 x65 v68 x65 (-1 : Int32) h67) else (zo_b (zo_gR h67 3 x62 1) (fun v82 => zo_c (zx_at sc v82 x65 h67) (fun v85 h84 => j142_77 x62 x63 x64 x65 v68 x65 v85 h84)))))) (fun j118_67 => zo_l (fun (x87 : Nat) (x88 : Nat) (x89 : Nat) (x90 : Int32) (h91 : zH) => j118_67 x87 x88 x89 x90 (0 : Int32) h91) (fun j117_91 => if v60 ≤ y57 then (j117_91 y54 y55 y56 y57 h58) else (zo_b (zo_gI h58 0 y55 1) (fun v93 => if v93 ≤ y57 then (j117_91 y54 y55 y56 y57 h58) else (j118_67 y54 y55 y56 y57 (1 : Int32) h58)))))))
set_option maxRecDepth 4000 in
def zx_Raffle_deal (sc : zX) (a0 : Nat) (a1 : Nat) (a2 : Nat) (h : zH) : Option (Unit × zH) := zx_Raffle_deal_l2 sc zo_F a0 a1 a2 (0 : Int32) h (fun (x14 : Nat) (x15 : Nat) (x16 : Nat) (h17 : zH) => zo_b (zo_gI h17 0 x15 1) (fun v18 => zx_Raffle_deal_l32 sc zo_F x14 x15 x16 (v18 - (1 : Int32)) h17 (fun (x50 : Nat) (x51 : Nat) (x52 : Nat) (h53 : zH) => zx_Raffle_deal_l91 sc zo_F x50 x51 x52 (0 : Int32) h53 (fun (x96 : Nat) (h97 : zH) => zo_b (zo_pB h97 4 x96 5 (0 : Int32)) (fun h98 => some ((), h98))))))
set_option maxRecDepth 4000 in
theorem zx_Raffle_deal_l2_ok (sc : zX) (d : Nat) (hd : 0 ≤ d) : ∀ (n : Nat) (y1 : Nat) (y2 : Nat) (y3 : Nat) (y4 : Int32) (h5 : zH) (k25 : Nat → Nat → Nat → zH → Option (Unit × zH)) (ro_ : Unit) (ho_ : zH), (∀ (z0 : Nat) (z1 : Nat) (z2 : Nat) (hz : zH), k25 z0 z1 z2 hz = some (ro_, ho_) → zq_wp sc (d + 1) 80 25 [some (.ref z0), some (.ref z1), some (.ref z2), none, none, none] [] hz (none, ho_)) → zx_Raffle_deal_l2 sc n y1 y2 y3 y4 h5 k25 = some (ro_, ho_) → zq_wp sc (d + 1) 80 2 [some (.ref y1), some (.ref y2), some (.ref y3), some (.int y4), none, none] [] h5 (none, ho_) := by
  intro n
  induction n with
  | zero => intro y1 y2 y3 y4 h5 k25 ro_ ho_ hk25 hf; cases hf
  | succ n ih =>
    intro y1 y2 y3 y4 h5 k25 ro_ ho_ hk25 hf
    refine zq_wg 2 (pc' := 4) (lv' := [some (.ref y1), some (.ref y2), some (.ref y3), some (.int y4), none, none]) (st' := [.ref y2, .int y4]) (h' := h5) rfl ?_
    obtain ⟨v6, e7, hf⟩ := zo_b_s hf
    refine zr_gI rfl rfl (by decide) rfl e7 ?_
    refine zr_if (v6 ≤ y4) 25 10 (st' := []) rfl rfl (fun b8 => ?_) (fun b8 => ?_)
    · have hf := zo_t hf b8
      refine zq_fg [some (.ref y1), some (.ref y2), some (.ref y3), none, none, none] (zq_lvle_s (zq_lvle_s (zq_lvle_s (zq_lvle_n (zq_lvle_s (zq_lvle_s zq_lvle_nil)))))) ?_
      exact hk25 y1 y2 y3 h5 hf
    · have hf := zo_f hf b8
      refine zq_wg 1 (pc' := 11) (lv' := [some (.ref y1), some (.ref y2), some (.ref y3), some (.int y4), none, none]) (st' := [.ref y1]) (h' := h5) rfl ?_
      obtain ⟨v9, e10, hf⟩ := zo_b_s hf
      refine zr_gR rfl rfl (by decide) rfl e10 ?_
      refine zq_wg 2 (pc' := 16) (lv' := [some (.ref y1), some (.ref y2), some (.ref y3), some (.int y4), none, none]) (st' := [.int y4, .int y4, .ref v9]) (h' := h5) rfl ?_
      obtain ⟨w12, h11, e13, hf⟩ := zo_c_s hf
      refine zr_cs zq_m11 [.ref v9, .int y4, .int y4] [] rfl rfl (by decide) rfl rfl rfl (Nat.le_of_ble_eq_true rfl) (Nat.le_of_ble_eq_true rfl) (zx_put_ok sc d (by omega) e13) ?_
      refine zq_wg 0 (pc' := 19) (lv' := [some (.ref y1), some (.ref y2), some (.ref y3), some (.int y4), none, none]) (st' := []) (h' := h11) rfl ?_
      refine zq_wg 2 (pc' := 2) (lv' := [some (.ref y1), some (.ref y2), some (.ref y3), some (.int (y4 + (1 : Int32))), none, none]) (st' := []) (h' := h11) rfl ?_
      exact ih y1 y2 y3 (y4 + (1 : Int32)) h11 _ _ _ hk25 hf
set_option maxRecDepth 4000 in
theorem zx_Raffle_deal_l32_ok (sc : zX) (d : Nat) (hd : 0 ≤ d) : ∀ (n : Nat) (y20 : Nat) (y21 : Nat) (y22 : Nat) (y23 : Int32) (h24 : zH) (k89 : Nat → Nat → Nat → zH → Option (Unit × zH)) (ro_ : Unit) (ho_ : zH), (∀ (z0 : Nat) (z1 : Nat) (z2 : Nat) (hz : zH), k89 z0 z1 z2 hz = some (ro_, ho_) → zq_wp sc (d + 1) 80 89 [some (.ref z0), some (.ref z1), some (.ref z2), none, none, none] [] hz (none, ho_)) → zx_Raffle_deal_l32 sc n y20 y21 y22 y23 h24 k89 = some (ro_, ho_) → zq_wp sc (d + 1) 80 32 [some (.ref y20), some (.ref y21), some (.ref y22), some (.int y23), none, none] [] h24 (none, ho_) := by
  intro n
  induction n with
  | zero => intro y20 y21 y22 y23 h24 k89 ro_ ho_ hk89 hf; cases hf
  | succ n ih =>
    intro y20 y21 y22 y23 h24 k89 ro_ ho_ hk89 hf
    refine zq_wg 1 (pc' := 33) (lv' := [some (.ref y20), some (.ref y21), some (.ref y22), some (.int y23), none, none]) (st' := [.int y23]) (h' := h24) rfl ?_
    refine zr_if (y23 ≤ 0) 89 36 (st' := []) rfl rfl (fun b25 => ?_) (fun b25 => ?_)
    · have hf := zo_t hf b25
      refine zq_fg [some (.ref y20), some (.ref y21), some (.ref y22), none, none, none] (zq_lvle_s (zq_lvle_s (zq_lvle_s (zq_lvle_n (zq_lvle_s (zq_lvle_s zq_lvle_nil)))))) ?_
      exact hk89 y20 y21 y22 h24 hf
    · have hf := zo_f hf b25
      refine zq_wg 4 (pc' := 40) (lv' := [some (.ref y20), some (.ref y21), some (.ref y22), some (.int y23), none, none]) (st' := [.int (y23 + (1 : Int32)), .ref y20]) (h' := h24) rfl ?_
      obtain ⟨e29, v27, h26, e28, hf⟩ := zo_v_s hf
      refine zr_cv zq_m81 [.int (y23 + (1 : Int32))] [] rfl rfl rfl rfl rfl (Nat.le_of_ble_eq_true rfl) (Nat.le_of_ble_eq_true rfl) e29 (zx_Raffle_below_ok sc d (by omega) e28) ?_
      refine zq_wg 0 (pc' := 43) (lv' := [some (.ref y20), some (.ref y21), some (.ref y22), some (.int y23), none, none]) (st' := [.int v27]) (h' := h26) rfl ?_
      refine zq_wg 2 (pc' := 46) (lv' := [some (.ref y20), some (.ref y21), some (.ref y22), some (.int y23), some (.int v27), none]) (st' := [.ref y20]) (h' := h26) rfl ?_
      obtain ⟨v30, e31, hf⟩ := zo_b_s hf
      refine zr_gR rfl rfl (by decide) rfl e31 ?_
      refine zq_wg 1 (pc' := 50) (lv' := [some (.ref y20), some (.ref y21), some (.ref y22), some (.int y23), some (.int v27), none]) (st' := [.int y23, .ref v30]) (h' := h26) rfl ?_
      obtain ⟨v33, h32, e34, hf⟩ := zo_c_s hf
      refine zr_cs zq_m12 [.ref v30, .int y23] [] rfl rfl (by decide) rfl rfl rfl (Nat.le_of_ble_eq_true rfl) (Nat.le_of_ble_eq_true rfl) (zx_at_ok sc d (by omega) e34) ?_
      refine zq_wg 0 (pc' := 53) (lv' := [some (.ref y20), some (.ref y21), some (.ref y22), some (.int y23), some (.int v27), none]) (st' := [.int v33]) (h' := h32) rfl ?_
      refine zq_wg 2 (pc' := 56) (lv' := [some (.ref y20), some (.ref y21), some (.ref y22), some (.int y23), some (.int v27), some (.int v33)]) (st' := [.ref y20]) (h' := h32) rfl ?_
      obtain ⟨v35, e36, hf⟩ := zo_b_s hf
      refine zr_gR rfl rfl (by decide) rfl e36 ?_
      refine zq_wg 2 (pc' := 61) (lv' := [some (.ref y20), some (.ref y21), some (.ref y22), some (.int y23), some (.int v27), some (.int v33)]) (st' := [.ref y20, .int y23, .ref v35]) (h' := h32) rfl ?_
      obtain ⟨v37, e38, hf⟩ := zo_b_s hf
      refine zr_gR rfl rfl (by decide) rfl e38 ?_
      refine zq_wg 1 (pc' := 66) (lv' := [some (.ref y20), some (.ref y21), some (.ref y22), some (.int y23), some (.int v27), some (.int v33)]) (st' := [.int v27, .ref v37, .int y23, .ref v35]) (h' := h32) rfl ?_
      obtain ⟨v40, h39, e41, hf⟩ := zo_c_s hf
      refine zr_cs zq_m12 [.ref v37, .int v27] [.int y23, .ref v35] rfl rfl (by decide) rfl rfl rfl (Nat.le_of_ble_eq_true rfl) (Nat.le_of_ble_eq_true rfl) (zx_at_ok sc d (by omega) e41) ?_
      refine zq_wg 0 (pc' := 69) (lv' := [some (.ref y20), some (.ref y21), some (.ref y22), some (.int y23), some (.int v27), some (.int v33)]) (st' := [.int v40, .int y23, .ref v35]) (h' := h39) rfl ?_
      obtain ⟨w43, h42, e44, hf⟩ := zo_c_s hf
      refine zr_cs zq_m11 [.ref v35, .int y23, .int v40] [] rfl rfl (by decide) rfl rfl rfl (Nat.le_of_ble_eq_true rfl) (Nat.le_of_ble_eq_true rfl) (zx_put_ok sc d (by omega) e44) ?_
      refine zq_wg 0 (pc' := 72) (lv' := [some (.ref y20), some (.ref y21), some (.ref y22), some (.int y23), some (.int v27), some (.int v33)]) (st' := []) (h' := h42) rfl ?_
      refine zq_wg 1 (pc' := 73) (lv' := [some (.ref y20), some (.ref y21), some (.ref y22), some (.int y23), some (.int v27), some (.int v33)]) (st' := [.ref y20]) (h' := h42) rfl ?_
      obtain ⟨v45, e46, hf⟩ := zo_b_s hf
      refine zr_gR rfl rfl (by decide) rfl e46 ?_
      refine zq_wg 2 (pc' := 80) (lv' := [some (.ref y20), some (.ref y21), some (.ref y22), some (.int y23), some (.int v27), some (.int v33)]) (st' := [.int v33, .int v27, .ref v45]) (h' := h42) rfl ?_
      obtain ⟨w48, h47, e49, hf⟩ := zo_c_s hf
      refine zr_cs zq_m11 [.ref v45, .int v27, .int v33] [] rfl rfl (by decide) rfl rfl rfl (Nat.le_of_ble_eq_true rfl) (Nat.le_of_ble_eq_true rfl) (zx_put_ok sc d (by omega) e49) ?_
      refine zq_wg 0 (pc' := 83) (lv' := [some (.ref y20), some (.ref y21), some (.ref y22), some (.int y23), some (.int v27), some (.int v33)]) (st' := []) (h' := h47) rfl ?_
      refine zq_wg 2 (pc' := 32) (lv' := [some (.ref y20), some (.ref y21), some (.ref y22), some (.int (y23 + (-1 : Int32))), some (.int v27), some (.int v33)]) (st' := []) (h' := h47) rfl ?_
      refine zq_fg [some (.ref y20), some (.ref y21), some (.ref y22), some (.int (y23 + (-1 : Int32))), none, none] (zq_lvle_s (zq_lvle_s (zq_lvle_s (zq_lvle_s (zq_lvle_n (zq_lvle_n zq_lvle_nil)))))) ?_
      exact ih y20 y21 y22 (y23 + (-1 : Int32)) h47 _ _ _ hk89 hf
set_option maxRecDepth 4000 in
theorem zx_Raffle_deal_l91_ok (sc : zX) (d : Nat) (hd : 0 ≤ d) : ∀ (n : Nat) (y54 : Nat) (y55 : Nat) (y56 : Nat) (y57 : Int32) (h58 : zH) (k151 : Nat → zH → Option (Unit × zH)) (ro_ : Unit) (ho_ : zH), (∀ (z0 : Nat) (hz : zH), k151 z0 hz = some (ro_, ho_) → zq_wp sc (d + 1) 80 151 [none, none, some (.ref z0), none, none, none] [] hz (none, ho_)) → zx_Raffle_deal_l91 sc n y54 y55 y56 y57 h58 k151 = some (ro_, ho_) → zq_wp sc (d + 1) 80 91 [some (.ref y54), some (.ref y55), some (.ref y56), some (.int y57), none, none] [] h58 (none, ho_) := by
  intro n
  induction n with
  | zero => intro y54 y55 y56 y57 h58 k151 ro_ ho_ hk151 hf; cases hf
  | succ n ih =>
    intro y54 y55 y56 y57 h58 k151 ro_ ho_ hk151 hf
    refine zq_wg 2 (pc' := 94) (lv' := [some (.ref y54), some (.ref y55), some (.ref y56), some (.int y57), none, none]) (st' := [.int (6 : Int32), .int y57]) (h' := h58) rfl ?_
    refine zr_if ((6 : Int32) ≤ y57) 151 97 (st' := []) rfl rfl (fun b59 => ?_) (fun b59 => ?_)
    · have hf := zo_t hf b59
      refine zq_fg [none, none, some (.ref y56), none, none, none] (zq_lvle_n (zq_lvle_n (zq_lvle_s (zq_lvle_n (zq_lvle_s (zq_lvle_s zq_lvle_nil)))))) ?_
      exact hk151 y56 h58 hf
    · have hf := zo_f hf b59
      refine zq_wg 2 (pc' := 99) (lv' := [some (.ref y54), some (.ref y55), some (.ref y56), some (.int y57), none, none]) (st' := [.ref y55, .int y57]) (h' := h58) rfl ?_
      obtain ⟨v60, e61, hf⟩ := zo_b_s hf
      refine zr_gI rfl rfl (by decide) rfl e61 ?_
      obtain ⟨j118_67, hjj118_67, hf⟩ := zo_lj hf
      have kj118_67 : ∀ (x62 : Nat) (x63 : Nat) (x64 : Nat) (x65 : Int32) (x66 : Int32) (h67 : zH), j118_67 x62 x63 x64 x65 x66 h67 = some (ro_, ho_) → zq_wp sc (d + 1) 80 118 [some (.ref x62), some (.ref x63), some (.ref x64), some (.int x65), none, none] [.int x66] h67 (none, ho_) := by
        intro x62 x63 x64 x65 x66 h67 hf
        rw [hjj118_67] at hf
        refine zq_wg 2 (pc' := 121) (lv' := [some (.ref x62), some (.ref x63), some (.ref x64), some (.int x65), some (.int x66), none]) (st' := [.ref x64]) (h' := h67) rfl ?_
        obtain ⟨v68, e69, hf⟩ := zo_b_s hf
        refine zr_gR rfl rfl (by decide) rfl e69 ?_
        refine zq_wg 2 (pc' := 127) (lv' := [some (.ref x62), some (.ref x63), some (.ref x64), some (.int x65), some (.int x66), none]) (st' := [.int x66, .int x65, .ref v68]) (h' := h67) rfl ?_
        obtain ⟨j142_77, hjj142_77, hf⟩ := zo_lj hf
        have kj142_77 : ∀ (x70 : Nat) (x71 : Nat) (x72 : Nat) (x73 : Int32) (x74 : Nat) (x75 : Int32) (x76 : Int32) (h77 : zH), j142_77 x70 x71 x72 x73 x74 x75 x76 h77 = some (ro_, ho_) → zq_wp sc (d + 1) 80 142 [some (.ref x70), some (.ref x71), some (.ref x72), some (.int x73), none, none] [.int x76, .int x75, .ref x74] h77 (none, ho_) := by
          intro x70 x71 x72 x73 x74 x75 x76 h77 hf
          rw [hjj142_77] at hf
          obtain ⟨w79, h78, e80, hf⟩ := zo_c_s hf
          refine zr_cs zq_m11 [.ref x74, .int x75, .int x76] [] rfl rfl (by decide) rfl rfl rfl (Nat.le_of_ble_eq_true rfl) (Nat.le_of_ble_eq_true rfl) (zx_put_ok sc d (by omega) e80) ?_
          refine zq_wg 0 (pc' := 145) (lv' := [some (.ref x70), some (.ref x71), some (.ref x72), some (.int x73), none, none]) (st' := []) (h' := h78) rfl ?_
          refine zq_wg 2 (pc' := 91) (lv' := [some (.ref x70), some (.ref x71), some (.ref x72), some (.int (x73 + (1 : Int32))), none, none]) (st' := []) (h' := h78) rfl ?_
          exact ih x70 x71 x72 (x73 + (1 : Int32)) h78 _ _ _ hk151 hf
        refine zr_if (x66 = 0) 141 130 (st' := [.int x65, .ref v68]) rfl rfl (fun b81 => ?_) (fun b81 => ?_)
        · have hf := zo_t hf b81
          refine zq_wg 1 (pc' := 142) (lv' := [some (.ref x62), some (.ref x63), some (.ref x64), some (.int x65), some (.int x66), none]) (st' := [.int (-1 : Int32), .int x65, .ref v68]) (h' := h67) rfl ?_
          refine zq_fg [some (.ref x62), some (.ref x63), some (.ref x64), some (.int x65), none, none] (zq_lvle_s (zq_lvle_s (zq_lvle_s (zq_lvle_s (zq_lvle_n (zq_lvle_s zq_lvle_nil)))))) ?_
          exact kj142_77 x62 x63 x64 x65 v68 x65 (-1 : Int32) h67 hf
        · have hf := zo_f hf b81
          refine zq_wg 1 (pc' := 131) (lv' := [some (.ref x62), some (.ref x63), some (.ref x64), some (.int x65), some (.int x66), none]) (st' := [.ref x62, .int x65, .ref v68]) (h' := h67) rfl ?_
          obtain ⟨v82, e83, hf⟩ := zo_b_s hf
          refine zr_gR rfl rfl (by decide) rfl e83 ?_
          refine zq_wg 1 (pc' := 135) (lv' := [some (.ref x62), some (.ref x63), some (.ref x64), some (.int x65), some (.int x66), none]) (st' := [.int x65, .ref v82, .int x65, .ref v68]) (h' := h67) rfl ?_
          obtain ⟨v85, h84, e86, hf⟩ := zo_c_s hf
          refine zr_cs zq_m12 [.ref v82, .int x65] [.int x65, .ref v68] rfl rfl (by decide) rfl rfl rfl (Nat.le_of_ble_eq_true rfl) (Nat.le_of_ble_eq_true rfl) (zx_at_ok sc d (by omega) e86) ?_
          refine zq_wg 0 (pc' := 138) (lv' := [some (.ref x62), some (.ref x63), some (.ref x64), some (.int x65), some (.int x66), none]) (st' := [.int v85, .int x65, .ref v68]) (h' := h84) rfl ?_
          refine zq_wg 1 (pc' := 142) (lv' := [some (.ref x62), some (.ref x63), some (.ref x64), some (.int x65), some (.int x66), none]) (st' := [.int v85, .int x65, .ref v68]) (h' := h84) rfl ?_
          refine zq_fg [some (.ref x62), some (.ref x63), some (.ref x64), some (.int x65), none, none] (zq_lvle_s (zq_lvle_s (zq_lvle_s (zq_lvle_s (zq_lvle_n (zq_lvle_s zq_lvle_nil)))))) ?_
          exact kj142_77 x62 x63 x64 x65 v68 x65 v85 h84 hf
      obtain ⟨j117_91, hjj117_91, hf⟩ := zo_lj hf
      have kj117_91 : ∀ (x87 : Nat) (x88 : Nat) (x89 : Nat) (x90 : Int32) (h91 : zH), j117_91 x87 x88 x89 x90 h91 = some (ro_, ho_) → zq_wp sc (d + 1) 80 117 [some (.ref x87), some (.ref x88), some (.ref x89), some (.int x90), none, none] [] h91 (none, ho_) := by
        intro x87 x88 x89 x90 h91 hf
        rw [hjj117_91] at hf
        refine zq_wg 1 (pc' := 118) (lv' := [some (.ref x87), some (.ref x88), some (.ref x89), some (.int x90), none, none]) (st' := [.int (0 : Int32)]) (h' := h91) rfl ?_
        exact kj118_67 x87 x88 x89 x90 (0 : Int32) h91 hf
      refine zr_if (v60 ≤ y57) 117 105 (st' := []) rfl rfl (fun b92 => ?_) (fun b92 => ?_)
      · have hf := zo_t hf b92
        exact kj117_91 y54 y55 y56 y57 h58 hf
      · have hf := zo_f hf b92
        refine zq_wg 2 (pc' := 107) (lv' := [some (.ref y54), some (.ref y55), some (.ref y56), some (.int y57), none, none]) (st' := [.ref y55, .int y57]) (h' := h58) rfl ?_
        obtain ⟨v93, e94, hf⟩ := zo_b_s hf
        refine zr_gI rfl rfl (by decide) rfl e94 ?_
        refine zr_if (v93 ≤ y57) 117 113 (st' := []) rfl rfl (fun b95 => ?_) (fun b95 => ?_)
        · have hf := zo_t hf b95
          exact kj117_91 y54 y55 y56 y57 h58 hf
        · have hf := zo_f hf b95
          refine zq_wg 2 (pc' := 118) (lv' := [some (.ref y54), some (.ref y55), some (.ref y56), some (.int y57), none, none]) (st' := [.int (1 : Int32)]) (h' := h58) rfl ?_
          exact kj118_67 y54 y55 y56 y57 (1 : Int32) h58 hf
set_option maxRecDepth 4000 in
theorem zx_Raffle_deal_ok (sc : zX) (d : Nat) (hd : 1 ≤ d) {a0 : Nat} {a1 : Nat} {a2 : Nat} {h : zH} {ro_ : Unit} {ho_ : zH} (hf : zx_Raffle_deal sc a0 a1 a2 h = some (ro_, ho_)) : zq_wm sc d 80 [.ref a0, .ref a1, .ref a2] h (none, ho_) := by
  unfold zx_Raffle_deal at hf
  obtain ⟨d, rfl⟩ : ∃ d', d = d' + 1 := ⟨d - 1, by omega⟩
  have hd : 0 ≤ d := by omega
  show zq_wp sc (d + 1) 80 0 [some (.ref a0), some (.ref a1), some (.ref a2), none, none, none] [] h _
  refine zq_wg 2 (pc' := 2) (lv' := [some (.ref a0), some (.ref a1), some (.ref a2), some (.int (0 : Int32)), none, none]) (st' := []) (h' := h) rfl ?_
  refine zx_Raffle_deal_l2_ok sc d hd zo_F a0 a1 a2 (0 : Int32) h _ _ _ ?_ hf
  · intro x14 x15 x16 h17 hf
    refine zq_wg 1 (pc' := 26) (lv' := [some (.ref x14), some (.ref x15), some (.ref x16), none, none, none]) (st' := [.ref x15]) (h' := h17) rfl ?_
    obtain ⟨v18, e19, hf⟩ := zo_b_s hf
    refine zr_gI rfl rfl (by decide) rfl e19 ?_
    refine zq_wg 3 (pc' := 32) (lv' := [some (.ref x14), some (.ref x15), some (.ref x16), some (.int (v18 - (1 : Int32))), none, none]) (st' := []) (h' := h17) rfl ?_
    refine zx_Raffle_deal_l32_ok sc d hd zo_F x14 x15 x16 (v18 - (1 : Int32)) h17 _ _ _ ?_ hf
    · intro x50 x51 x52 h53 hf
      refine zq_wg 2 (pc' := 91) (lv' := [some (.ref x50), some (.ref x51), some (.ref x52), some (.int (0 : Int32)), none, none]) (st' := []) (h' := h53) rfl ?_
      refine zx_Raffle_deal_l91_ok sc d hd zo_F x50 x51 x52 (0 : Int32) h53 _ _ _ ?_ hf
      · intro x96 h97 hf
        refine zq_wg 2 (pc' := 153) (lv' := [none, none, some (.ref x96), none, none, none]) (st' := [.int (0 : Int32), .ref x96]) (h' := h97) rfl ?_
        obtain ⟨h98, e99, hf⟩ := zo_b_s hf
        refine zr_pB rfl rfl (by decide) rfl rfl e99 ?_
        exact zr_rv rfl rfl hf
set_option maxRecDepth 4000 in
def zx_draw (sc : zX) (a0 : Nat) (a1 : Int32) (h : zH) : Option (Int32 × zH) := zo_c (zx_within sc a1 (0 : Int32) (9999 : Int32) h) (fun v2 h1 => if v2 = 0 then (some ((0 : Int32), h1)) else (zo_v h1 a0 9 (zx_remember sc a0 h1) (fun w6 h5 => zo_b (zo_gR h5 9 a0 6) (fun v9 => zo_v h5 v9 3 (zx_Raffle_sow sc v9 a1 h5) (fun w12 h11 => zo_b (zo_gR h11 9 a0 6) (fun v15 => zo_b (zo_gR h11 9 a0 11) (fun v17 => zo_b (zo_gR h11 9 a0 1) (fun v19 => zo_v h11 v15 3 (zx_Raffle_deal sc v15 v17 v19 h11) (fun w22 h21 => some ((1 : Int32), h21))))))))))
set_option maxRecDepth 4000 in
theorem zx_draw_ok (sc : zX) (d : Nat) (hd : 3 ≤ d) {a0 : Nat} {a1 : Int32} {h : zH} {ro_ : Int32} {ho_ : zH} (hf : zx_draw sc a0 a1 h = some (ro_, ho_)) : zq_wm sc d 76 [.ref a0, .int a1] h (some (.int ro_), ho_) := by
  unfold zx_draw at hf
  obtain ⟨d, rfl⟩ : ∃ d', d = d' + 1 := ⟨d - 1, by omega⟩
  have hd : 2 ≤ d := by omega
  show zq_wp sc (d + 1) 76 0 [some (.ref a0), some (.int a1)] [] h _
  refine zq_wg 3 (pc' := 5) (lv' := [some (.ref a0), some (.int a1)]) (st' := [.int (9999 : Int32), .int (0 : Int32), .int a1]) (h' := h) rfl ?_
  obtain ⟨v2, h1, e3, hf⟩ := zo_c_s hf
  refine zr_cs zq_m35 [.int a1, .int (0 : Int32), .int (9999 : Int32)] [] rfl rfl (by decide) rfl rfl rfl (Nat.le_of_ble_eq_true rfl) (Nat.le_of_ble_eq_true rfl) (zx_within_ok sc d (by omega) e3) ?_
  refine zq_wg 0 (pc' := 8) (lv' := [some (.ref a0), some (.int a1)]) (st' := [.int v2]) (h' := h1) rfl ?_
  refine zr_if (v2 = 0) 11 13 (st' := []) rfl rfl (fun b4 => ?_) (fun b4 => ?_)
  · have hf := zo_t hf b4
    refine zq_wg 1 (pc' := 12) (lv' := [some (.ref a0), some (.int a1)]) (st' := [.int (0 : Int32)]) (h' := h1) rfl ?_
    exact zr_ri rfl rfl rfl hf
  · have hf := zo_f hf b4
    refine zq_wg 1 (pc' := 14) (lv' := [some (.ref a0), some (.int a1)]) (st' := [.ref a0]) (h' := h1) rfl ?_
    obtain ⟨e8, w6, h5, e7, hf⟩ := zo_v_s hf
    refine zr_cv zq_m77 [] [] rfl rfl rfl rfl rfl (Nat.le_of_ble_eq_true rfl) (Nat.le_of_ble_eq_true rfl) e8 (zx_remember_ok sc d (by omega) e7) ?_
    refine zq_wg 0 (pc' := 17) (lv' := [some (.ref a0), some (.int a1)]) (st' := []) (h' := h5) rfl ?_
    refine zq_wg 1 (pc' := 18) (lv' := [some (.ref a0), some (.int a1)]) (st' := [.ref a0]) (h' := h5) rfl ?_
    obtain ⟨v9, e10, hf⟩ := zo_b_s hf
    refine zr_gR rfl rfl (by decide) rfl e10 ?_
    refine zq_wg 1 (pc' := 22) (lv' := [some (.ref a0), some (.int a1)]) (st' := [.int a1, .ref v9]) (h' := h5) rfl ?_
    obtain ⟨e14, w12, h11, e13, hf⟩ := zo_v_s hf
    refine zr_cv zq_m79 [.int a1] [] rfl rfl rfl rfl rfl (Nat.le_of_ble_eq_true rfl) (Nat.le_of_ble_eq_true rfl) e14 (zx_Raffle_sow_ok sc d (by omega) e13) ?_
    refine zq_wg 0 (pc' := 25) (lv' := [some (.ref a0), some (.int a1)]) (st' := []) (h' := h11) rfl ?_
    refine zq_wg 1 (pc' := 26) (lv' := [some (.ref a0), some (.int a1)]) (st' := [.ref a0]) (h' := h11) rfl ?_
    obtain ⟨v15, e16, hf⟩ := zo_b_s hf
    refine zr_gR rfl rfl (by decide) rfl e16 ?_
    refine zq_wg 1 (pc' := 30) (lv' := [some (.ref a0), some (.int a1)]) (st' := [.ref a0, .ref v15]) (h' := h11) rfl ?_
    obtain ⟨v17, e18, hf⟩ := zo_b_s hf
    refine zr_gR rfl rfl (by decide) rfl e18 ?_
    refine zq_wg 1 (pc' := 34) (lv' := [some (.ref a0), some (.int a1)]) (st' := [.ref a0, .ref v17, .ref v15]) (h' := h11) rfl ?_
    obtain ⟨v19, e20, hf⟩ := zo_b_s hf
    refine zr_gR rfl rfl (by decide) rfl e20 ?_
    obtain ⟨e24, w22, h21, e23, hf⟩ := zo_v_s hf
    refine zr_cv zq_m80 [.ref v17, .ref v19] [] rfl rfl rfl rfl rfl (Nat.le_of_ble_eq_true rfl) (Nat.le_of_ble_eq_true rfl) e24 (zx_Raffle_deal_ok sc d (by omega) e23) ?_
    refine zq_wg 0 (pc' := 40) (lv' := [some (.ref a0), some (.int a1)]) (st' := []) (h' := h21) rfl ?_
    refine zq_wg 1 (pc' := 41) (lv' := [some (.ref a0), some (.int a1)]) (st' := [.int (1 : Int32)]) (h' := h21) rfl ?_
    exact zr_ri rfl rfl rfl hf
set_option maxRecDepth 4000 in
def zx_State_canTrade (sc : zX) (a0 : Nat) (a1 : Nat) (a2 : Int32) (a3 : Int32) (a4 : Int32) (h : zH) : Option (Int32 × zH) := zo_v h a1 0 (zx_Army_hasMan sc a1 a2 h) (fun v2 h1 => if v2 = 0 then (some ((0 : Int32), h1)) else (zo_v h1 a1 0 (zx_Army_hasMan sc a1 a3 h1) (fun v7 h6 => if v7 = 0 then (some ((0 : Int32), h6)) else (if a2 = a3 then (some ((0 : Int32), h6)) else (zo_c (zx_within sc a4 (0 : Int32) (999 : Int32) h6) (fun v13 h12 => if v13 = 0 then (some ((0 : Int32), h12)) else (zo_v h12 a0 4 (zx_State_postOf sc a0 a2 h12) (fun v17 h16 => if v17 = (-1 : Int32) then (some ((0 : Int32), h16)) else (zo_b (zo_gR h16 4 a0 1) (fun v21 => zo_c (zx_at sc v21 a3 h16) (fun v24 h23 => if v24 < a4 then (some ((0 : Int32), h23)) else (some ((1 : Int32), h23)))))))))))))
set_option maxRecDepth 4000 in
theorem zx_State_canTrade_ok (sc : zX) (d : Nat) (hd : 2 ≤ d) {a0 : Nat} {a1 : Nat} {a2 : Int32} {a3 : Int32} {a4 : Int32} {h : zH} {ro_ : Int32} {ho_ : zH} (hf : zx_State_canTrade sc a0 a1 a2 a3 a4 h = some (ro_, ho_)) : zq_wm sc d 83 [.ref a0, .ref a1, .int a2, .int a3, .int a4] h (some (.int ro_), ho_) := by
  unfold zx_State_canTrade at hf
  obtain ⟨d, rfl⟩ : ∃ d', d = d' + 1 := ⟨d - 1, by omega⟩
  have hd : 1 ≤ d := by omega
  show zq_wp sc (d + 1) 83 0 [some (.ref a0), some (.ref a1), some (.int a2), some (.int a3), some (.int a4)] [] h _
  refine zq_wg 2 (pc' := 2) (lv' := [some (.ref a0), some (.ref a1), some (.int a2), some (.int a3), some (.int a4)]) (st' := [.int a2, .ref a1]) (h' := h) rfl ?_
  obtain ⟨e4, v2, h1, e3, hf⟩ := zo_v_s hf
  refine zr_cv zq_m69 [.int a2] [] rfl rfl rfl rfl rfl (Nat.le_of_ble_eq_true rfl) (Nat.le_of_ble_eq_true rfl) e4 (zx_Army_hasMan_ok sc d (by omega) e3) ?_
  refine zq_wg 0 (pc' := 5) (lv' := [some (.ref a0), some (.ref a1), some (.int a2), some (.int a3), some (.int a4)]) (st' := [.int v2]) (h' := h1) rfl ?_
  refine zr_if (v2 = 0) 59 8 (st' := []) rfl rfl (fun b5 => ?_) (fun b5 => ?_)
  · have hf := zo_t hf b5
    refine zq_wg 1 (pc' := 60) (lv' := [some (.ref a0), some (.ref a1), some (.int a2), some (.int a3), some (.int a4)]) (st' := [.int (0 : Int32)]) (h' := h1) rfl ?_
    exact zr_ri rfl rfl rfl hf
  · have hf := zo_f hf b5
    refine zq_wg 2 (pc' := 10) (lv' := [some (.ref a0), some (.ref a1), some (.int a2), some (.int a3), some (.int a4)]) (st' := [.int a3, .ref a1]) (h' := h1) rfl ?_
    obtain ⟨e9, v7, h6, e8, hf⟩ := zo_v_s hf
    refine zr_cv zq_m69 [.int a3] [] rfl rfl rfl rfl rfl (Nat.le_of_ble_eq_true rfl) (Nat.le_of_ble_eq_true rfl) e9 (zx_Army_hasMan_ok sc d (by omega) e8) ?_
    refine zq_wg 0 (pc' := 13) (lv' := [some (.ref a0), some (.ref a1), some (.int a2), some (.int a3), some (.int a4)]) (st' := [.int v7]) (h' := h6) rfl ?_
    refine zr_if (v7 = 0) 59 16 (st' := []) rfl rfl (fun b10 => ?_) (fun b10 => ?_)
    · have hf := zo_t hf b10
      refine zq_wg 1 (pc' := 60) (lv' := [some (.ref a0), some (.ref a1), some (.int a2), some (.int a3), some (.int a4)]) (st' := [.int (0 : Int32)]) (h' := h6) rfl ?_
      exact zr_ri rfl rfl rfl hf
    · have hf := zo_f hf b10
      refine zq_wg 2 (pc' := 18) (lv' := [some (.ref a0), some (.ref a1), some (.int a2), some (.int a3), some (.int a4)]) (st' := [.int a3, .int a2]) (h' := h6) rfl ?_
      refine zr_if (a2 = a3) 59 21 (st' := []) rfl rfl (fun b11 => ?_) (fun b11 => ?_)
      · have hf := zo_t hf b11
        refine zq_wg 1 (pc' := 60) (lv' := [some (.ref a0), some (.ref a1), some (.int a2), some (.int a3), some (.int a4)]) (st' := [.int (0 : Int32)]) (h' := h6) rfl ?_
        exact zr_ri rfl rfl rfl hf
      · have hf := zo_f hf b11
        refine zq_wg 3 (pc' := 27) (lv' := [some (.ref a0), some (.ref a1), some (.int a2), some (.int a3), some (.int a4)]) (st' := [.int (999 : Int32), .int (0 : Int32), .int a4]) (h' := h6) rfl ?_
        obtain ⟨v13, h12, e14, hf⟩ := zo_c_s hf
        refine zr_cs zq_m35 [.int a4, .int (0 : Int32), .int (999 : Int32)] [] rfl rfl (by decide) rfl rfl rfl (Nat.le_of_ble_eq_true rfl) (Nat.le_of_ble_eq_true rfl) (zx_within_ok sc d (by omega) e14) ?_
        refine zq_wg 0 (pc' := 30) (lv' := [some (.ref a0), some (.ref a1), some (.int a2), some (.int a3), some (.int a4)]) (st' := [.int v13]) (h' := h12) rfl ?_
        refine zr_if (v13 = 0) 59 33 (st' := []) rfl rfl (fun b15 => ?_) (fun b15 => ?_)
        · have hf := zo_t hf b15
          refine zq_wg 1 (pc' := 60) (lv' := [some (.ref a0), some (.ref a1), some (.int a2), some (.int a3), some (.int a4)]) (st' := [.int (0 : Int32)]) (h' := h12) rfl ?_
          exact zr_ri rfl rfl rfl hf
        · have hf := zo_f hf b15
          refine zq_wg 2 (pc' := 35) (lv' := [some (.ref a0), some (.ref a1), some (.int a2), some (.int a3), some (.int a4)]) (st' := [.int a2, .ref a0]) (h' := h12) rfl ?_
          obtain ⟨e19, v17, h16, e18, hf⟩ := zo_v_s hf
          refine zr_cv zq_m71 [.int a2] [] rfl rfl rfl rfl rfl (Nat.le_of_ble_eq_true rfl) (Nat.le_of_ble_eq_true rfl) e19 (zx_State_postOf_ok sc d (by omega) e18) ?_
          refine zq_wg 0 (pc' := 38) (lv' := [some (.ref a0), some (.ref a1), some (.int a2), some (.int a3), some (.int a4)]) (st' := [.int v17]) (h' := h16) rfl ?_
          refine zq_wg 1 (pc' := 39) (lv' := [some (.ref a0), some (.ref a1), some (.int a2), some (.int a3), some (.int a4)]) (st' := [.int (-1 : Int32), .int v17]) (h' := h16) rfl ?_
          refine zr_if (v17 = (-1 : Int32)) 59 42 (st' := []) rfl rfl (fun b20 => ?_) (fun b20 => ?_)
          · have hf := zo_t hf b20
            refine zq_wg 1 (pc' := 60) (lv' := [some (.ref a0), some (.ref a1), some (.int a2), some (.int a3), some (.int a4)]) (st' := [.int (0 : Int32)]) (h' := h16) rfl ?_
            exact zr_ri rfl rfl rfl hf
          · have hf := zo_f hf b20
            refine zq_wg 1 (pc' := 43) (lv' := [some (.ref a0), some (.ref a1), some (.int a2), some (.int a3), some (.int a4)]) (st' := [.ref a0]) (h' := h16) rfl ?_
            obtain ⟨v21, e22, hf⟩ := zo_b_s hf
            refine zr_gR rfl rfl (by decide) rfl e22 ?_
            refine zq_wg 1 (pc' := 47) (lv' := [some (.ref a0), some (.ref a1), some (.int a2), some (.int a3), some (.int a4)]) (st' := [.int a3, .ref v21]) (h' := h16) rfl ?_
            obtain ⟨v24, h23, e25, hf⟩ := zo_c_s hf
            refine zr_cs zq_m12 [.ref v21, .int a3] [] rfl rfl (by decide) rfl rfl rfl (Nat.le_of_ble_eq_true rfl) (Nat.le_of_ble_eq_true rfl) (zx_at_ok sc d (by omega) e25) ?_
            refine zq_wg 0 (pc' := 50) (lv' := [some (.ref a0), some (.ref a1), some (.int a2), some (.int a3), some (.int a4)]) (st' := [.int v24]) (h' := h23) rfl ?_
            refine zq_wg 1 (pc' := 52) (lv' := [some (.ref a0), some (.ref a1), some (.int a2), some (.int a3), some (.int a4)]) (st' := [.int a4, .int v24]) (h' := h23) rfl ?_
            refine zr_if (v24 < a4) 59 55 (st' := []) rfl rfl (fun b26 => ?_) (fun b26 => ?_)
            · have hf := zo_t hf b26
              refine zq_wg 1 (pc' := 60) (lv' := [some (.ref a0), some (.ref a1), some (.int a2), some (.int a3), some (.int a4)]) (st' := [.int (0 : Int32)]) (h' := h23) rfl ?_
              exact zr_ri rfl rfl rfl hf
            · have hf := zo_f hf b26
              refine zq_wg 2 (pc' := 60) (lv' := [some (.ref a0), some (.ref a1), some (.int a2), some (.int a3), some (.int a4)]) (st' := [.int (1 : Int32)]) (h' := h23) rfl ?_
              exact zr_ri rfl rfl rfl hf
set_option maxRecDepth 4000 in
def zx_State_trade (sc : zX) (a0 : Nat) (a1 : Int32) (a2 : Int32) (a3 : Int32) (h : zH) : Option (Unit × zH) := zo_v h a0 4 (zx_State_postOf sc a0 a1 h) (fun v2 h1 => zo_v h1 a0 4 (zx_State_postOf sc a0 a2 h1) (fun v6 h5 => zo_b (zo_gR h5 4 a0 0) (fun v9 => zo_c (zx_put sc v9 v2 a2 h5) (fun w12 h11 => zo_b (zo_gR h11 4 a0 0) (fun v14 => zo_c (zx_put sc v14 v6 a1 h11) (fun w17 h16 => zo_b (zo_gR h16 4 a0 1) (fun v19 => zo_b (zo_gR h16 4 a0 1) (fun v21 => zo_c (zx_at sc v21 a1 h16) (fun v24 h23 => zo_c (zx_put sc v19 a1 (v24 + a3) h23) (fun w27 h26 => zo_b (zo_gR h26 4 a0 1) (fun v29 => zo_b (zo_gR h26 4 a0 1) (fun v31 => zo_c (zx_at sc v31 a2 h26) (fun v34 h33 => zo_c (zx_put sc v29 a2 (v34 - a3) h33) (fun w37 h36 => some ((), h36)))))))))))))))
set_option maxRecDepth 4000 in
theorem zx_State_trade_ok (sc : zX) (d : Nat) (hd : 2 ≤ d) {a0 : Nat} {a1 : Int32} {a2 : Int32} {a3 : Int32} {h : zH} {ro_ : Unit} {ho_ : zH} (hf : zx_State_trade sc a0 a1 a2 a3 h = some (ro_, ho_)) : zq_wm sc d 84 [.ref a0, .int a1, .int a2, .int a3] h (none, ho_) := by
  unfold zx_State_trade at hf
  obtain ⟨d, rfl⟩ : ∃ d', d = d' + 1 := ⟨d - 1, by omega⟩
  have hd : 1 ≤ d := by omega
  show zq_wp sc (d + 1) 84 0 [some (.ref a0), some (.int a1), some (.int a2), some (.int a3), none, none] [] h _
  refine zq_wg 2 (pc' := 2) (lv' := [some (.ref a0), some (.int a1), some (.int a2), some (.int a3), none, none]) (st' := [.int a1, .ref a0]) (h' := h) rfl ?_
  obtain ⟨e4, v2, h1, e3, hf⟩ := zo_v_s hf
  refine zr_cv zq_m71 [.int a1] [] rfl rfl rfl rfl rfl (Nat.le_of_ble_eq_true rfl) (Nat.le_of_ble_eq_true rfl) e4 (zx_State_postOf_ok sc d (by omega) e3) ?_
  refine zq_wg 0 (pc' := 5) (lv' := [some (.ref a0), some (.int a1), some (.int a2), some (.int a3), none, none]) (st' := [.int v2]) (h' := h1) rfl ?_
  refine zq_wg 3 (pc' := 9) (lv' := [some (.ref a0), some (.int a1), some (.int a2), some (.int a3), some (.int v2), none]) (st' := [.int a2, .ref a0]) (h' := h1) rfl ?_
  obtain ⟨e8, v6, h5, e7, hf⟩ := zo_v_s hf
  refine zr_cv zq_m71 [.int a2] [] rfl rfl rfl rfl rfl (Nat.le_of_ble_eq_true rfl) (Nat.le_of_ble_eq_true rfl) e8 (zx_State_postOf_ok sc d (by omega) e7) ?_
  refine zq_wg 0 (pc' := 12) (lv' := [some (.ref a0), some (.int a1), some (.int a2), some (.int a3), some (.int v2), none]) (st' := [.int v6]) (h' := h5) rfl ?_
  refine zq_wg 2 (pc' := 15) (lv' := [some (.ref a0), some (.int a1), some (.int a2), some (.int a3), some (.int v2), some (.int v6)]) (st' := [.ref a0]) (h' := h5) rfl ?_
  obtain ⟨v9, e10, hf⟩ := zo_b_s hf
  refine zr_gR rfl rfl (by decide) rfl e10 ?_
  refine zq_wg 2 (pc' := 21) (lv' := [some (.ref a0), some (.int a1), some (.int a2), some (.int a3), some (.int v2), some (.int v6)]) (st' := [.int a2, .int v2, .ref v9]) (h' := h5) rfl ?_
  obtain ⟨w12, h11, e13, hf⟩ := zo_c_s hf
  refine zr_cs zq_m11 [.ref v9, .int v2, .int a2] [] rfl rfl (by decide) rfl rfl rfl (Nat.le_of_ble_eq_true rfl) (Nat.le_of_ble_eq_true rfl) (zx_put_ok sc d (by omega) e13) ?_
  refine zq_wg 0 (pc' := 24) (lv' := [some (.ref a0), some (.int a1), some (.int a2), some (.int a3), some (.int v2), some (.int v6)]) (st' := []) (h' := h11) rfl ?_
  refine zq_wg 1 (pc' := 25) (lv' := [some (.ref a0), some (.int a1), some (.int a2), some (.int a3), some (.int v2), some (.int v6)]) (st' := [.ref a0]) (h' := h11) rfl ?_
  obtain ⟨v14, e15, hf⟩ := zo_b_s hf
  refine zr_gR rfl rfl (by decide) rfl e15 ?_
  refine zq_wg 2 (pc' := 31) (lv' := [some (.ref a0), some (.int a1), some (.int a2), some (.int a3), some (.int v2), some (.int v6)]) (st' := [.int a1, .int v6, .ref v14]) (h' := h11) rfl ?_
  obtain ⟨w17, h16, e18, hf⟩ := zo_c_s hf
  refine zr_cs zq_m11 [.ref v14, .int v6, .int a1] [] rfl rfl (by decide) rfl rfl rfl (Nat.le_of_ble_eq_true rfl) (Nat.le_of_ble_eq_true rfl) (zx_put_ok sc d (by omega) e18) ?_
  refine zq_wg 0 (pc' := 34) (lv' := [some (.ref a0), some (.int a1), some (.int a2), some (.int a3), some (.int v2), some (.int v6)]) (st' := []) (h' := h16) rfl ?_
  refine zq_wg 1 (pc' := 35) (lv' := [some (.ref a0), some (.int a1), some (.int a2), some (.int a3), some (.int v2), some (.int v6)]) (st' := [.ref a0]) (h' := h16) rfl ?_
  obtain ⟨v19, e20, hf⟩ := zo_b_s hf
  refine zr_gR rfl rfl (by decide) rfl e20 ?_
  refine zq_wg 2 (pc' := 40) (lv' := [some (.ref a0), some (.int a1), some (.int a2), some (.int a3), some (.int v2), some (.int v6)]) (st' := [.ref a0, .int a1, .ref v19]) (h' := h16) rfl ?_
  obtain ⟨v21, e22, hf⟩ := zo_b_s hf
  refine zr_gR rfl rfl (by decide) rfl e22 ?_
  refine zq_wg 1 (pc' := 44) (lv' := [some (.ref a0), some (.int a1), some (.int a2), some (.int a3), some (.int v2), some (.int v6)]) (st' := [.int a1, .ref v21, .int a1, .ref v19]) (h' := h16) rfl ?_
  obtain ⟨v24, h23, e25, hf⟩ := zo_c_s hf
  refine zr_cs zq_m12 [.ref v21, .int a1] [.int a1, .ref v19] rfl rfl (by decide) rfl rfl rfl (Nat.le_of_ble_eq_true rfl) (Nat.le_of_ble_eq_true rfl) (zx_at_ok sc d (by omega) e25) ?_
  refine zq_wg 0 (pc' := 47) (lv' := [some (.ref a0), some (.int a1), some (.int a2), some (.int a3), some (.int v2), some (.int v6)]) (st' := [.int v24, .int a1, .ref v19]) (h' := h23) rfl ?_
  refine zq_wg 2 (pc' := 49) (lv' := [some (.ref a0), some (.int a1), some (.int a2), some (.int a3), some (.int v2), some (.int v6)]) (st' := [.int (v24 + a3), .int a1, .ref v19]) (h' := h23) rfl ?_
  obtain ⟨w27, h26, e28, hf⟩ := zo_c_s hf
  refine zr_cs zq_m11 [.ref v19, .int a1, .int (v24 + a3)] [] rfl rfl (by decide) rfl rfl rfl (Nat.le_of_ble_eq_true rfl) (Nat.le_of_ble_eq_true rfl) (zx_put_ok sc d (by omega) e28) ?_
  refine zq_wg 0 (pc' := 52) (lv' := [some (.ref a0), some (.int a1), some (.int a2), some (.int a3), some (.int v2), some (.int v6)]) (st' := []) (h' := h26) rfl ?_
  refine zq_wg 1 (pc' := 53) (lv' := [some (.ref a0), some (.int a1), some (.int a2), some (.int a3), some (.int v2), some (.int v6)]) (st' := [.ref a0]) (h' := h26) rfl ?_
  obtain ⟨v29, e30, hf⟩ := zo_b_s hf
  refine zr_gR rfl rfl (by decide) rfl e30 ?_
  refine zq_wg 2 (pc' := 58) (lv' := [some (.ref a0), some (.int a1), some (.int a2), some (.int a3), some (.int v2), some (.int v6)]) (st' := [.ref a0, .int a2, .ref v29]) (h' := h26) rfl ?_
  obtain ⟨v31, e32, hf⟩ := zo_b_s hf
  refine zr_gR rfl rfl (by decide) rfl e32 ?_
  refine zq_wg 1 (pc' := 62) (lv' := [some (.ref a0), some (.int a1), some (.int a2), some (.int a3), some (.int v2), some (.int v6)]) (st' := [.int a2, .ref v31, .int a2, .ref v29]) (h' := h26) rfl ?_
  obtain ⟨v34, h33, e35, hf⟩ := zo_c_s hf
  refine zr_cs zq_m12 [.ref v31, .int a2] [.int a2, .ref v29] rfl rfl (by decide) rfl rfl rfl (Nat.le_of_ble_eq_true rfl) (Nat.le_of_ble_eq_true rfl) (zx_at_ok sc d (by omega) e35) ?_
  refine zq_wg 0 (pc' := 65) (lv' := [some (.ref a0), some (.int a1), some (.int a2), some (.int a3), some (.int v2), some (.int v6)]) (st' := [.int v34, .int a2, .ref v29]) (h' := h33) rfl ?_
  refine zq_wg 2 (pc' := 67) (lv' := [some (.ref a0), some (.int a1), some (.int a2), some (.int a3), some (.int v2), some (.int v6)]) (st' := [.int (v34 - a3), .int a2, .ref v29]) (h' := h33) rfl ?_
  obtain ⟨w37, h36, e38, hf⟩ := zo_c_s hf
  refine zr_cs zq_m11 [.ref v29, .int a2, .int (v34 - a3)] [] rfl rfl (by decide) rfl rfl rfl (Nat.le_of_ble_eq_true rfl) (Nat.le_of_ble_eq_true rfl) (zx_put_ok sc d (by omega) e38) ?_
  refine zq_wg 0 (pc' := 70) (lv' := [some (.ref a0), some (.int a1), some (.int a2), some (.int a3), some (.int v2), some (.int v6)]) (st' := []) (h' := h36) rfl ?_
  exact zr_rv rfl rfl hf
set_option maxRecDepth 4000 in
def zx_sell (sc : zX) (a0 : Nat) (a1 : Int32) (a2 : Int32) (a3 : Int32) (h : zH) : Option (Int32 × zH) := zo_b (zo_gR h 9 a0 1) (fun v1 => zo_b (zo_gR h 9 a0 11) (fun v3 => zo_v h v1 4 (zx_State_canTrade sc v1 v3 a1 a2 a3 h) (fun v6 h5 => if v6 = 0 then (some ((0 : Int32), h5)) else (zo_v h5 a0 9 (zx_remember sc a0 h5) (fun w11 h10 => zo_b (zo_gR h10 9 a0 1) (fun v14 => zo_v h10 v14 4 (zx_State_trade sc v14 a1 a2 a3 h10) (fun w17 h16 => some ((1 : Int32), h16))))))))
set_option maxRecDepth 4000 in
theorem zx_sell_ok (sc : zX) (d : Nat) (hd : 3 ≤ d) {a0 : Nat} {a1 : Int32} {a2 : Int32} {a3 : Int32} {h : zH} {ro_ : Int32} {ho_ : zH} (hf : zx_sell sc a0 a1 a2 a3 h = some (ro_, ho_)) : zq_wm sc d 82 [.ref a0, .int a1, .int a2, .int a3] h (some (.int ro_), ho_) := by
  unfold zx_sell at hf
  obtain ⟨d, rfl⟩ : ∃ d', d = d' + 1 := ⟨d - 1, by omega⟩
  have hd : 2 ≤ d := by omega
  show zq_wp sc (d + 1) 82 0 [some (.ref a0), some (.int a1), some (.int a2), some (.int a3)] [] h _
  refine zq_wg 1 (pc' := 1) (lv' := [some (.ref a0), some (.int a1), some (.int a2), some (.int a3)]) (st' := [.ref a0]) (h' := h) rfl ?_
  obtain ⟨v1, e2, hf⟩ := zo_b_s hf
  refine zr_gR rfl rfl (by decide) rfl e2 ?_
  refine zq_wg 1 (pc' := 5) (lv' := [some (.ref a0), some (.int a1), some (.int a2), some (.int a3)]) (st' := [.ref a0, .ref v1]) (h' := h) rfl ?_
  obtain ⟨v3, e4, hf⟩ := zo_b_s hf
  refine zr_gR rfl rfl (by decide) rfl e4 ?_
  refine zq_wg 3 (pc' := 11) (lv' := [some (.ref a0), some (.int a1), some (.int a2), some (.int a3)]) (st' := [.int a3, .int a2, .int a1, .ref v3, .ref v1]) (h' := h) rfl ?_
  obtain ⟨e8, v6, h5, e7, hf⟩ := zo_v_s hf
  refine zr_cv zq_m83 [.ref v3, .int a1, .int a2, .int a3] [] rfl rfl rfl rfl rfl (Nat.le_of_ble_eq_true rfl) (Nat.le_of_ble_eq_true rfl) e8 (zx_State_canTrade_ok sc d (by omega) e7) ?_
  refine zq_wg 0 (pc' := 14) (lv' := [some (.ref a0), some (.int a1), some (.int a2), some (.int a3)]) (st' := [.int v6]) (h' := h5) rfl ?_
  refine zr_if (v6 = 0) 17 19 (st' := []) rfl rfl (fun b9 => ?_) (fun b9 => ?_)
  · have hf := zo_t hf b9
    refine zq_wg 1 (pc' := 18) (lv' := [some (.ref a0), some (.int a1), some (.int a2), some (.int a3)]) (st' := [.int (0 : Int32)]) (h' := h5) rfl ?_
    exact zr_ri rfl rfl rfl hf
  · have hf := zo_f hf b9
    refine zq_wg 1 (pc' := 20) (lv' := [some (.ref a0), some (.int a1), some (.int a2), some (.int a3)]) (st' := [.ref a0]) (h' := h5) rfl ?_
    obtain ⟨e13, w11, h10, e12, hf⟩ := zo_v_s hf
    refine zr_cv zq_m77 [] [] rfl rfl rfl rfl rfl (Nat.le_of_ble_eq_true rfl) (Nat.le_of_ble_eq_true rfl) e13 (zx_remember_ok sc d (by omega) e12) ?_
    refine zq_wg 0 (pc' := 23) (lv' := [some (.ref a0), some (.int a1), some (.int a2), some (.int a3)]) (st' := []) (h' := h10) rfl ?_
    refine zq_wg 1 (pc' := 24) (lv' := [some (.ref a0), some (.int a1), some (.int a2), some (.int a3)]) (st' := [.ref a0]) (h' := h10) rfl ?_
    obtain ⟨v14, e15, hf⟩ := zo_b_s hf
    refine zr_gR rfl rfl (by decide) rfl e15 ?_
    refine zq_wg 3 (pc' := 30) (lv' := [some (.ref a0), some (.int a1), some (.int a2), some (.int a3)]) (st' := [.int a3, .int a2, .int a1, .ref v14]) (h' := h10) rfl ?_
    obtain ⟨e19, w17, h16, e18, hf⟩ := zo_v_s hf
    refine zr_cv zq_m84 [.int a1, .int a2, .int a3] [] rfl rfl rfl rfl rfl (Nat.le_of_ble_eq_true rfl) (Nat.le_of_ble_eq_true rfl) e19 (zx_State_trade_ok sc d (by omega) e18) ?_
    refine zq_wg 0 (pc' := 33) (lv' := [some (.ref a0), some (.int a1), some (.int a2), some (.int a3)]) (st' := []) (h' := h16) rfl ?_
    refine zq_wg 1 (pc' := 34) (lv' := [some (.ref a0), some (.int a1), some (.int a2), some (.int a3)]) (st' := [.int (1 : Int32)]) (h' := h16) rfl ?_
    exact zr_ri rfl rfl rfl hf
set_option maxRecDepth 4000 in
def zx_State_canCommand (sc : zX) (a0 : Nat) (a1 : Int32) (h : zH) : Option (Int32 × zH) := zo_c (zx_within sc a1 (0 : Int32) (2 : Int32) h) (fun v2 h1 => if v2 = 0 then (some ((0 : Int32), h1)) else (zo_b (zo_gI h1 4 a0 2) (fun v5 => if a1 = v5 then (some ((0 : Int32), h1)) else (some ((1 : Int32), h1)))))
set_option maxRecDepth 4000 in
theorem zx_State_canCommand_ok (sc : zX) (d : Nat) (hd : 1 ≤ d) {a0 : Nat} {a1 : Int32} {h : zH} {ro_ : Int32} {ho_ : zH} (hf : zx_State_canCommand sc a0 a1 h = some (ro_, ho_)) : zq_wm sc d 86 [.ref a0, .int a1] h (some (.int ro_), ho_) := by
  unfold zx_State_canCommand at hf
  obtain ⟨d, rfl⟩ : ∃ d', d = d' + 1 := ⟨d - 1, by omega⟩
  have hd : 0 ≤ d := by omega
  show zq_wp sc (d + 1) 86 0 [some (.ref a0), some (.int a1)] [] h _
  refine zq_wg 3 (pc' := 3) (lv' := [some (.ref a0), some (.int a1)]) (st' := [.int (2 : Int32), .int (0 : Int32), .int a1]) (h' := h) rfl ?_
  obtain ⟨v2, h1, e3, hf⟩ := zo_c_s hf
  refine zr_cs zq_m35 [.int a1, .int (0 : Int32), .int (2 : Int32)] [] rfl rfl (by decide) rfl rfl rfl (Nat.le_of_ble_eq_true rfl) (Nat.le_of_ble_eq_true rfl) (zx_within_ok sc d (by omega) e3) ?_
  refine zq_wg 0 (pc' := 6) (lv' := [some (.ref a0), some (.int a1)]) (st' := [.int v2]) (h' := h1) rfl ?_
  refine zr_if (v2 = 0) 21 9 (st' := []) rfl rfl (fun b4 => ?_) (fun b4 => ?_)
  · have hf := zo_t hf b4
    refine zq_wg 1 (pc' := 22) (lv' := [some (.ref a0), some (.int a1)]) (st' := [.int (0 : Int32)]) (h' := h1) rfl ?_
    exact zr_ri rfl rfl rfl hf
  · have hf := zo_f hf b4
    refine zq_wg 2 (pc' := 11) (lv' := [some (.ref a0), some (.int a1)]) (st' := [.ref a0, .int a1]) (h' := h1) rfl ?_
    obtain ⟨v5, e6, hf⟩ := zo_b_s hf
    refine zr_gI rfl rfl (by decide) rfl e6 ?_
    refine zr_if (a1 = v5) 21 17 (st' := []) rfl rfl (fun b7 => ?_) (fun b7 => ?_)
    · have hf := zo_t hf b7
      refine zq_wg 1 (pc' := 22) (lv' := [some (.ref a0), some (.int a1)]) (st' := [.int (0 : Int32)]) (h' := h1) rfl ?_
      exact zr_ri rfl rfl rfl hf
    · have hf := zo_f hf b7
      refine zq_wg 2 (pc' := 22) (lv' := [some (.ref a0), some (.int a1)]) (st' := [.int (1 : Int32)]) (h' := h1) rfl ?_
      exact zr_ri rfl rfl rfl hf
set_option maxRecDepth 4000 in
def zx_order (sc : zX) (a0 : Nat) (a1 : Int32) (h : zH) : Option (Int32 × zH) := zo_b (zo_gR h 9 a0 1) (fun v1 => zo_v h v1 4 (zx_State_canCommand sc v1 a1 h) (fun v4 h3 => if v4 = 0 then (some ((0 : Int32), h3)) else (zo_v h3 a0 9 (zx_remember sc a0 h3) (fun w9 h8 => zo_b (zo_gR h8 9 a0 1) (fun v12 => zo_b (zo_pI h8 4 v12 2 a1) (fun h14 => some ((1 : Int32), h14)))))))
set_option maxRecDepth 4000 in
theorem zx_order_ok (sc : zX) (d : Nat) (hd : 3 ≤ d) {a0 : Nat} {a1 : Int32} {h : zH} {ro_ : Int32} {ho_ : zH} (hf : zx_order sc a0 a1 h = some (ro_, ho_)) : zq_wm sc d 85 [.ref a0, .int a1] h (some (.int ro_), ho_) := by
  unfold zx_order at hf
  obtain ⟨d, rfl⟩ : ∃ d', d = d' + 1 := ⟨d - 1, by omega⟩
  have hd : 2 ≤ d := by omega
  show zq_wp sc (d + 1) 85 0 [some (.ref a0), some (.int a1)] [] h _
  refine zq_wg 1 (pc' := 1) (lv' := [some (.ref a0), some (.int a1)]) (st' := [.ref a0]) (h' := h) rfl ?_
  obtain ⟨v1, e2, hf⟩ := zo_b_s hf
  refine zr_gR rfl rfl (by decide) rfl e2 ?_
  refine zq_wg 1 (pc' := 5) (lv' := [some (.ref a0), some (.int a1)]) (st' := [.int a1, .ref v1]) (h' := h) rfl ?_
  obtain ⟨e6, v4, h3, e5, hf⟩ := zo_v_s hf
  refine zr_cv zq_m86 [.int a1] [] rfl rfl rfl rfl rfl (Nat.le_of_ble_eq_true rfl) (Nat.le_of_ble_eq_true rfl) e6 (zx_State_canCommand_ok sc d (by omega) e5) ?_
  refine zq_wg 0 (pc' := 8) (lv' := [some (.ref a0), some (.int a1)]) (st' := [.int v4]) (h' := h3) rfl ?_
  refine zr_if (v4 = 0) 11 13 (st' := []) rfl rfl (fun b7 => ?_) (fun b7 => ?_)
  · have hf := zo_t hf b7
    refine zq_wg 1 (pc' := 12) (lv' := [some (.ref a0), some (.int a1)]) (st' := [.int (0 : Int32)]) (h' := h3) rfl ?_
    exact zr_ri rfl rfl rfl hf
  · have hf := zo_f hf b7
    refine zq_wg 1 (pc' := 14) (lv' := [some (.ref a0), some (.int a1)]) (st' := [.ref a0]) (h' := h3) rfl ?_
    obtain ⟨e11, w9, h8, e10, hf⟩ := zo_v_s hf
    refine zr_cv zq_m77 [] [] rfl rfl rfl rfl rfl (Nat.le_of_ble_eq_true rfl) (Nat.le_of_ble_eq_true rfl) e11 (zx_remember_ok sc d (by omega) e10) ?_
    refine zq_wg 0 (pc' := 17) (lv' := [some (.ref a0), some (.int a1)]) (st' := []) (h' := h8) rfl ?_
    refine zq_wg 1 (pc' := 18) (lv' := [some (.ref a0), some (.int a1)]) (st' := [.ref a0]) (h' := h8) rfl ?_
    obtain ⟨v12, e13, hf⟩ := zo_b_s hf
    refine zr_gR rfl rfl (by decide) rfl e13 ?_
    refine zq_wg 1 (pc' := 22) (lv' := [some (.ref a0), some (.int a1)]) (st' := [.int a1, .ref v12]) (h' := h8) rfl ?_
    obtain ⟨h14, e15, hf⟩ := zo_b_s hf
    refine zr_pI rfl rfl (by decide) rfl rfl e15 ?_
    refine zq_wg 1 (pc' := 26) (lv' := [some (.ref a0), some (.int a1)]) (st' := [.int (1 : Int32)]) (h' := h14) rfl ?_
    exact zr_ri rfl rfl rfl hf
set_option maxRecDepth 4000 in
def zx_State_canPass (sc : zX) (a0 : Nat) (a1 : Nat) (h : zH) : Option (Int32 × zH) := zo_b (zo_gI h 4 a0 3) (fun v1 => if v1 ≤ 0 then (some ((0 : Int32), h)) else (zo_b (zo_gI h 4 a0 3) (fun v4 => zo_b (zo_gI h 0 a1 2) (fun v6 => if v6 ≤ v4 then (some ((0 : Int32), h)) else (zo_b (zo_gI h 4 a0 5) (fun v9 => if v9 = 0 then (some ((1 : Int32), h)) else (some ((0 : Int32), h))))))))
set_option maxRecDepth 4000 in
theorem zx_State_canPass_ok (sc : zX) (d : Nat) (hd : 0 ≤ d) {a0 : Nat} {a1 : Nat} {h : zH} {ro_ : Int32} {ho_ : zH} (hf : zx_State_canPass sc a0 a1 h = some (ro_, ho_)) : zq_wm sc d 88 [.ref a0, .ref a1] h (some (.int ro_), ho_) := by
  unfold zx_State_canPass at hf
  show zq_wp sc d 88 0 [some (.ref a0), some (.ref a1)] [] h _
  refine zq_wg 1 (pc' := 1) (lv' := [some (.ref a0), some (.ref a1)]) (st' := [.ref a0]) (h' := h) rfl ?_
  obtain ⟨v1, e2, hf⟩ := zo_b_s hf
  refine zr_gI rfl rfl (by decide) rfl e2 ?_
  refine zr_if (v1 ≤ 0) 29 7 (st' := []) rfl rfl (fun b3 => ?_) (fun b3 => ?_)
  · have hf := zo_t hf b3
    refine zq_wg 1 (pc' := 30) (lv' := [some (.ref a0), some (.ref a1)]) (st' := [.int (0 : Int32)]) (h' := h) rfl ?_
    exact zr_ri rfl rfl rfl hf
  · have hf := zo_f hf b3
    refine zq_wg 1 (pc' := 8) (lv' := [some (.ref a0), some (.ref a1)]) (st' := [.ref a0]) (h' := h) rfl ?_
    obtain ⟨v4, e5, hf⟩ := zo_b_s hf
    refine zr_gI rfl rfl (by decide) rfl e5 ?_
    refine zq_wg 1 (pc' := 12) (lv' := [some (.ref a0), some (.ref a1)]) (st' := [.ref a1, .int v4]) (h' := h) rfl ?_
    obtain ⟨v6, e7, hf⟩ := zo_b_s hf
    refine zr_gI rfl rfl (by decide) rfl e7 ?_
    refine zr_if (v6 ≤ v4) 29 18 (st' := []) rfl rfl (fun b8 => ?_) (fun b8 => ?_)
    · have hf := zo_t hf b8
      refine zq_wg 1 (pc' := 30) (lv' := [some (.ref a0), some (.ref a1)]) (st' := [.int (0 : Int32)]) (h' := h) rfl ?_
      exact zr_ri rfl rfl rfl hf
    · have hf := zo_f hf b8
      refine zq_wg 1 (pc' := 19) (lv' := [some (.ref a0), some (.ref a1)]) (st' := [.ref a0]) (h' := h) rfl ?_
      obtain ⟨v9, e10, hf⟩ := zo_b_s hf
      refine zr_gI rfl rfl (by decide) rfl e10 ?_
      refine zr_if (v9 = 0) 25 29 (st' := []) rfl rfl (fun b11 => ?_) (fun b11 => ?_)
      · have hf := zo_t hf b11
        refine zq_wg 2 (pc' := 30) (lv' := [some (.ref a0), some (.ref a1)]) (st' := [.int (1 : Int32)]) (h' := h) rfl ?_
        exact zr_ri rfl rfl rfl hf
      · have hf := zo_f hf b11
        refine zq_wg 1 (pc' := 30) (lv' := [some (.ref a0), some (.ref a1)]) (st' := [.int (0 : Int32)]) (h' := h) rfl ?_
        exact zr_ri rfl rfl rfl hf
set_option maxRecDepth 4000 in
def zj_compare (sc : zX) (a0 : Int32) (a1 : Int32) (h : zH) : Option (Int32 × zH) := if a1 ≤ a0 then (if a0 = a1 then (some ((0 : Int32), h)) else (some ((1 : Int32), h))) else (some ((-1 : Int32), h))
set_option maxRecDepth 4000 in
theorem zj_compare_ok (sc : zX) (d : Nat) (hd : 0 ≤ d) {a0 : Int32} {a1 : Int32} {h : zH} {ro_ : Int32} {ho_ : zH} (hf : zj_compare sc a0 a1 h = some (ro_, ho_)) : zq_wm sc d 91 [.int a0, .int a1] h (some (.int ro_), ho_) := by
  unfold zj_compare at hf
  show zq_wp sc d 91 0 [some (.int a0), some (.int a1)] [] h _
  refine zq_wg 2 (pc' := 2) (lv' := [some (.int a0), some (.int a1)]) (st' := [.int a1, .int a0]) (h' := h) rfl ?_
  refine zr_if (a1 ≤ a0) 9 5 (st' := []) rfl rfl (fun b1 => ?_) (fun b1 => ?_)
  · have hf := zo_t hf b1
    refine zq_wg 2 (pc' := 11) (lv' := [some (.int a0), some (.int a1)]) (st' := [.int a1, .int a0]) (h' := h) rfl ?_
    refine zr_if (a0 = a1) 14 18 (st' := []) rfl rfl (fun b2 => ?_) (fun b2 => ?_)
    · have hf := zo_t hf b2
      refine zq_wg 2 (pc' := 19) (lv' := [some (.int a0), some (.int a1)]) (st' := [.int (0 : Int32)]) (h' := h) rfl ?_
      exact zr_ri rfl rfl rfl hf
    · have hf := zo_f hf b2
      refine zq_wg 1 (pc' := 19) (lv' := [some (.int a0), some (.int a1)]) (st' := [.int (1 : Int32)]) (h' := h) rfl ?_
      exact zr_ri rfl rfl rfl hf
  · have hf := zo_f hf b1
    refine zq_wg 2 (pc' := 19) (lv' := [some (.int a0), some (.int a1)]) (st' := [.int (-1 : Int32)]) (h' := h) rfl ?_
    exact zr_ri rfl rfl rfl hf
set_option maxRecDepth 4000 in
def zx_Army_move (sc : zX) (a0 : Nat) (a1 : Int32) (a2 : Int32) (a3 : Int32) (h : zH) : Option (Int32 × zH) := zo_b (zo_gR h 0 a0 17) (fun v1 => zo_v h v1 1 (zx_Laws_isTold sc v1 (2 : Int32) h) (fun v4 h3 => if v4 = 0 then (if a3 = (2 : Int32) then (some ((-1 : Int32), h3)) else (if a3 = (1 : Int32) then (zo_c (zj_compare sc a1 a2 h3) (fun v11 h10 => some (v11, h10))) else (if a2 ≤ ((2 : Int32) * a1) then (some ((0 : Int32), h3)) else (some ((-1 : Int32), h3))))) else (zo_b (zo_gR h3 0 a0 17) (fun v14 => zo_v h3 v14 1 (zx_Laws_value sc v14 (2 : Int32) a1 a2 a3 (0 : Int32) h3) (fun v17 h16 => zo_c (zx_clamp sc v17 (-3 : Int32) (3 : Int32) h16) (fun v21 h20 => some (v21, h20)))))))
set_option maxRecDepth 4000 in
theorem zx_Army_move_ok (sc : zX) (d : Nat) (hd : 2 ≤ d) {a0 : Nat} {a1 : Int32} {a2 : Int32} {a3 : Int32} {h : zH} {ro_ : Int32} {ho_ : zH} (hf : zx_Army_move sc a0 a1 a2 a3 h = some (ro_, ho_)) : zq_wm sc d 90 [.ref a0, .int a1, .int a2, .int a3] h (some (.int ro_), ho_) := by
  unfold zx_Army_move at hf
  obtain ⟨d, rfl⟩ : ∃ d', d = d' + 1 := ⟨d - 1, by omega⟩
  have hd : 1 ≤ d := by omega
  show zq_wp sc (d + 1) 90 0 [some (.ref a0), some (.int a1), some (.int a2), some (.int a3)] [] h _
  refine zq_wg 1 (pc' := 1) (lv' := [some (.ref a0), some (.int a1), some (.int a2), some (.int a3)]) (st' := [.ref a0]) (h' := h) rfl ?_
  obtain ⟨v1, e2, hf⟩ := zo_b_s hf
  refine zr_gR rfl rfl (by decide) rfl e2 ?_
  refine zq_wg 1 (pc' := 5) (lv' := [some (.ref a0), some (.int a1), some (.int a2), some (.int a3)]) (st' := [.int (2 : Int32), .ref v1]) (h' := h) rfl ?_
  obtain ⟨e6, v4, h3, e5, hf⟩ := zo_v_s hf
  refine zr_cv zq_m51 [.int (2 : Int32)] [] rfl rfl rfl rfl rfl (Nat.le_of_ble_eq_true rfl) (Nat.le_of_ble_eq_true rfl) e6 (zx_Laws_isTold_ok sc d (by omega) e5) ?_
  refine zq_wg 0 (pc' := 8) (lv' := [some (.ref a0), some (.int a1), some (.int a2), some (.int a3)]) (st' := [.int v4]) (h' := h3) rfl ?_
  refine zr_if (v4 = 0) 30 11 (st' := []) rfl rfl (fun b7 => ?_) (fun b7 => ?_)
  · have hf := zo_t hf b7
    refine zq_wg 2 (pc' := 32) (lv' := [some (.ref a0), some (.int a1), some (.int a2), some (.int a3)]) (st' := [.int (2 : Int32), .int a3]) (h' := h3) rfl ?_
    refine zr_if (a3 = (2 : Int32)) 35 37 (st' := []) rfl rfl (fun b8 => ?_) (fun b8 => ?_)
    · have hf := zo_t hf b8
      refine zq_wg 1 (pc' := 36) (lv' := [some (.ref a0), some (.int a1), some (.int a2), some (.int a3)]) (st' := [.int (-1 : Int32)]) (h' := h3) rfl ?_
      exact zr_ri rfl rfl rfl hf
    · have hf := zo_f hf b8
      refine zq_wg 2 (pc' := 39) (lv' := [some (.ref a0), some (.int a1), some (.int a2), some (.int a3)]) (st' := [.int (1 : Int32), .int a3]) (h' := h3) rfl ?_
      refine zr_if (a3 = (1 : Int32)) 42 48 (st' := []) rfl rfl (fun b9 => ?_) (fun b9 => ?_)
      · have hf := zo_t hf b9
        refine zq_wg 2 (pc' := 44) (lv' := [some (.ref a0), some (.int a1), some (.int a2), some (.int a3)]) (st' := [.int a2, .int a1]) (h' := h3) rfl ?_
        obtain ⟨v11, h10, e12, hf⟩ := zo_c_s hf
        refine zr_cs zq_m91 [.int a1, .int a2] [] rfl rfl (by decide) rfl rfl rfl (Nat.le_of_ble_eq_true rfl) (Nat.le_of_ble_eq_true rfl) (zj_compare_ok sc d (by omega) e12) ?_
        refine zq_wg 0 (pc' := 47) (lv' := [some (.ref a0), some (.int a1), some (.int a2), some (.int a3)]) (st' := [.int v11]) (h' := h10) rfl ?_
        exact zr_ri rfl rfl rfl hf
      · have hf := zo_f hf b9
        refine zq_wg 4 (pc' := 52) (lv' := [some (.ref a0), some (.int a1), some (.int a2), some (.int a3)]) (st' := [.int a2, .int ((2 : Int32) * a1)]) (h' := h3) rfl ?_
        refine zr_if (a2 ≤ ((2 : Int32) * a1)) 59 55 (st' := []) rfl rfl (fun b13 => ?_) (fun b13 => ?_)
        · have hf := zo_t hf b13
          refine zq_wg 1 (pc' := 60) (lv' := [some (.ref a0), some (.int a1), some (.int a2), some (.int a3)]) (st' := [.int (0 : Int32)]) (h' := h3) rfl ?_
          exact zr_ri rfl rfl rfl hf
        · have hf := zo_f hf b13
          refine zq_wg 2 (pc' := 60) (lv' := [some (.ref a0), some (.int a1), some (.int a2), some (.int a3)]) (st' := [.int (-1 : Int32)]) (h' := h3) rfl ?_
          exact zr_ri rfl rfl rfl hf
  · have hf := zo_f hf b7
    refine zq_wg 1 (pc' := 12) (lv' := [some (.ref a0), some (.int a1), some (.int a2), some (.int a3)]) (st' := [.ref a0]) (h' := h3) rfl ?_
    obtain ⟨v14, e15, hf⟩ := zo_b_s hf
    refine zr_gR rfl rfl (by decide) rfl e15 ?_
    refine zq_wg 5 (pc' := 20) (lv' := [some (.ref a0), some (.int a1), some (.int a2), some (.int a3)]) (st' := [.int (0 : Int32), .int a3, .int a2, .int a1, .int (2 : Int32), .ref v14]) (h' := h3) rfl ?_
    obtain ⟨e19, v17, h16, e18, hf⟩ := zo_v_s hf
    refine zr_cv zq_m53 [.int (2 : Int32), .int a1, .int a2, .int a3, .int (0 : Int32)] [] rfl rfl rfl rfl rfl (Nat.le_of_ble_eq_true rfl) (Nat.le_of_ble_eq_true rfl) e19 (zx_Laws_value_ok sc d (by omega) e18) ?_
    refine zq_wg 0 (pc' := 23) (lv' := [some (.ref a0), some (.int a1), some (.int a2), some (.int a3)]) (st' := [.int v17]) (h' := h16) rfl ?_
    refine zq_wg 2 (pc' := 26) (lv' := [some (.ref a0), some (.int a1), some (.int a2), some (.int a3)]) (st' := [.int (3 : Int32), .int (-3 : Int32), .int v17]) (h' := h16) rfl ?_
    obtain ⟨v21, h20, e22, hf⟩ := zo_c_s hf
    refine zr_cs zq_m55 [.int v17, .int (-3 : Int32), .int (3 : Int32)] [] rfl rfl (by decide) rfl rfl rfl (Nat.le_of_ble_eq_true rfl) (Nat.le_of_ble_eq_true rfl) (zx_clamp_ok sc d (by omega) e22) ?_
    refine zq_wg 0 (pc' := 29) (lv' := [some (.ref a0), some (.int a1), some (.int a2), some (.int a3)]) (st' := [.int v21]) (h' := h20) rfl ?_
    exact zr_ri rfl rfl rfl hf
set_option maxRecDepth 4000 in
def zx_Army_after (sc : zX) (a0 : Nat) (a1 : Int32) (a2 : Int32) (h : zH) : Option (Int32 × zH) := zo_l (fun (x1 : Int32) (h2 : zH) => some (x1, h2)) (fun j12_2 => if a1 ≤ 0 then (j12_2 a1 h) else (zo_b (zo_gI h 0 a0 2) (fun v4 => if a1 < v4 then (zo_b (zo_gI h 0 a0 2) (fun v7 => zo_c (zx_clamp sc (a1 + a2) (0 : Int32) v7 h) (fun v10 h9 => some (v10, h9)))) else (j12_2 a1 h))))
set_option maxRecDepth 4000 in
theorem zx_Army_after_ok (sc : zX) (d : Nat) (hd : 2 ≤ d) {a0 : Nat} {a1 : Int32} {a2 : Int32} {h : zH} {ro_ : Int32} {ho_ : zH} (hf : zx_Army_after sc a0 a1 a2 h = some (ro_, ho_)) : zq_wm sc d 92 [.ref a0, .int a1, .int a2] h (some (.int ro_), ho_) := by
  unfold zx_Army_after at hf
  obtain ⟨d, rfl⟩ : ∃ d', d = d' + 1 := ⟨d - 1, by omega⟩
  have hd : 1 ≤ d := by omega
  show zq_wp sc (d + 1) 92 0 [some (.ref a0), some (.int a1), some (.int a2)] [] h _
  refine zq_wg 1 (pc' := 1) (lv' := [some (.ref a0), some (.int a1), some (.int a2)]) (st' := [.int a1]) (h' := h) rfl ?_
  obtain ⟨j12_2, hjj12_2, hf⟩ := zo_lj hf
  have kj12_2 : ∀ (x1 : Int32) (h2 : zH), j12_2 x1 h2 = some (ro_, ho_) → zq_wp sc (d + 1) 92 12 [none, some (.int x1), none] [] h2 (some (.int ro_), ho_) := by
    intro x1 h2 hf
    rw [hjj12_2] at hf
    refine zq_wg 2 (pc' := 27) (lv' := [none, some (.int x1), none]) (st' := [.int x1]) (h' := h2) rfl ?_
    exact zr_ri rfl rfl rfl hf
  refine zr_if (a1 ≤ 0) 12 4 (st' := []) rfl rfl (fun b3 => ?_) (fun b3 => ?_)
  · have hf := zo_t hf b3
    refine zq_fg [none, some (.int a1), none] (zq_lvle_n (zq_lvle_s (zq_lvle_n zq_lvle_nil))) ?_
    exact kj12_2 a1 h hf
  · have hf := zo_f hf b3
    refine zq_wg 2 (pc' := 6) (lv' := [some (.ref a0), some (.int a1), some (.int a2)]) (st' := [.ref a0, .int a1]) (h' := h) rfl ?_
    obtain ⟨v4, e5, hf⟩ := zo_b_s hf
    refine zr_gI rfl rfl (by decide) rfl e5 ?_
    refine zr_if (a1 < v4) 16 12 (st' := []) rfl rfl (fun b6 => ?_) (fun b6 => ?_)
    · have hf := zo_t hf b6
      refine zq_wg 5 (pc' := 21) (lv' := [some (.ref a0), some (.int a1), some (.int a2)]) (st' := [.ref a0, .int (0 : Int32), .int (a1 + a2)]) (h' := h) rfl ?_
      obtain ⟨v7, e8, hf⟩ := zo_b_s hf
      refine zr_gI rfl rfl (by decide) rfl e8 ?_
      obtain ⟨v10, h9, e11, hf⟩ := zo_c_s hf
      refine zr_cs zq_m55 [.int (a1 + a2), .int (0 : Int32), .int v7] [] rfl rfl (by decide) rfl rfl rfl (Nat.le_of_ble_eq_true rfl) (Nat.le_of_ble_eq_true rfl) (zx_clamp_ok sc d (by omega) e11) ?_
      refine zq_wg 0 (pc' := 27) (lv' := [some (.ref a0), some (.int a1), some (.int a2)]) (st' := [.int v10]) (h' := h9) rfl ?_
      exact zr_ri rfl rfl rfl hf
    · have hf := zo_f hf b6
      refine zq_fg [none, some (.int a1), none] (zq_lvle_n (zq_lvle_s (zq_lvle_n zq_lvle_nil))) ?_
      exact kj12_2 a1 h hf
set_option maxRecDepth 4000 in
def zx_State_pass_l24 (sc : zX) : Nat → Nat → Nat → Int32 → Int32 → Int32 → zH → Option (Int32 × zH)
  | 0, _, _, _, _, _, _ => none
  | n + 1, y15, y16, y17, y18, y19, h20 => if y17 ≤ y19 then (some (y19, h20)) else (zo_v h20 y15 4 (zx_State_canPass sc y15 y16 h20) (fun v23 h22 => if v23 = 0 then (some (y19, h22)) else (zo_b (zo_gI h22 4 y15 3) (fun v27 => zo_v h22 y16 0 (zx_Army_after sc y16 v27 y18 h22) (fun v30 h29 => zo_b (zo_pI h29 4 y15 3 v30) (fun h33 => zo_b (zo_gI h33 4 y15 4) (fun v35 => zo_b (zo_pI h33 4 y15 4 (v35 + (1 : Int32))) (fun h37 => zo_b (zo_gI h37 0 y16 5) (fun v39 => zo_l (fun (x41 : Nat) (x42 : Nat) (x43 : Int32) (x44 : Int32) (x45 : Int32) (x46 : Nat) (x47 : Int32) (h48 : zH) => zo_b (zo_pB h48 4 x46 5 x47) (fun h49 => zx_State_pass_l24 sc n x41 x42 x43 x44 x45 h49 )) (fun j89_48 => zo_l (fun (x51 : Nat) (x52 : Nat) (x53 : Int32) (x54 : Int32) (x55 : Int32) (x56 : Nat) (h57 : zH) => j89_48 x51 x52 x53 x54 x55 x56 (0 : Int32) h57) (fun j88_57 => if v39 ≤ 0 then (j88_57 y15 y16 y17 y18 (y19 + (1 : Int32)) y15 h37) else (zo_b (zo_gI h37 4 y15 4) (fun v59 => zo_b (zo_gI h37 0 y16 5) (fun v61 => zo_b (zo_rm v59 v61) (fun v63 => if v63 = 0 then (j89_48 y15 y16 y17 y18 (y19 + (1 : Int32)) y15 (1 : Int32) h37) else (j88_57 y15 y16 y17 y18 (y19 + (1 : Int32)) y15 h37))))))))))))))))
set_option maxRecDepth 4000 in
def zx_State_pass (sc : zX) (a0 : Nat) (a1 : Nat) (a2 : Int32) (h : zH) : Option (Int32 × zH) := zo_b (zo_gR h 4 a0 0) (fun v1 => zo_v h a1 0 (zx_Army_strength sc a1 v1 h) (fun v4 h3 => zo_b (zo_gI h3 0 a1 4) (fun v7 => zo_b (zo_gI h3 4 a0 2) (fun v9 => zo_v h3 a1 0 (zx_Army_move sc a1 v4 v7 v9 h3) (fun v12 h11 => zx_State_pass_l24 sc zo_F a0 a1 a2 v12 (0 : Int32) h11 )))))
set_option maxRecDepth 4000 in
theorem zx_State_pass_l24_ok (sc : zX) (d : Nat) (hd : 3 ≤ d) : ∀ (n : Nat) (y15 : Nat) (y16 : Nat) (y17 : Int32) (y18 : Int32) (y19 : Int32) (h20 : zH) (ro_ : Int32) (ho_ : zH),  zx_State_pass_l24 sc n y15 y16 y17 y18 y19 h20  = some (ro_, ho_) → zq_wp sc (d + 1) 89 24 [some (.ref y15), some (.ref y16), some (.int y17), some (.int y18), some (.int y19)] [] h20 (some (.int ro_), ho_) := by
  intro n
  induction n with
  | zero => intro y15 y16 y17 y18 y19 h20 ro_ ho_ hf; cases hf
  | succ n ih =>
    intro y15 y16 y17 y18 y19 h20 ro_ ho_ hf
    refine zq_wg 2 (pc' := 27) (lv' := [some (.ref y15), some (.ref y16), some (.int y17), some (.int y18), some (.int y19)]) (st' := [.int y17, .int y19]) (h' := h20) rfl ?_
    refine zr_if (y17 ≤ y19) 95 30 (st' := []) rfl rfl (fun b21 => ?_) (fun b21 => ?_)
    · have hf := zo_t hf b21
      refine zq_wg 1 (pc' := 97) (lv' := [some (.ref y15), some (.ref y16), some (.int y17), some (.int y18), some (.int y19)]) (st' := [.int y19]) (h' := h20) rfl ?_
      exact zr_ri rfl rfl rfl hf
    · have hf := zo_f hf b21
      refine zq_wg 2 (pc' := 32) (lv' := [some (.ref y15), some (.ref y16), some (.int y17), some (.int y18), some (.int y19)]) (st' := [.ref y16, .ref y15]) (h' := h20) rfl ?_
      obtain ⟨e25, v23, h22, e24, hf⟩ := zo_v_s hf
      refine zr_cv zq_m88 [.ref y16] [] rfl rfl rfl rfl rfl (Nat.le_of_ble_eq_true rfl) (Nat.le_of_ble_eq_true rfl) e25 (zx_State_canPass_ok sc d (by omega) e24) ?_
      refine zq_wg 0 (pc' := 35) (lv' := [some (.ref y15), some (.ref y16), some (.int y17), some (.int y18), some (.int y19)]) (st' := [.int v23]) (h' := h22) rfl ?_
      refine zr_if (v23 = 0) 95 38 (st' := []) rfl rfl (fun b26 => ?_) (fun b26 => ?_)
      · have hf := zo_t hf b26
        refine zq_wg 1 (pc' := 97) (lv' := [some (.ref y15), some (.ref y16), some (.int y17), some (.int y18), some (.int y19)]) (st' := [.int y19]) (h' := h22) rfl ?_
        exact zr_ri rfl rfl rfl hf
      · have hf := zo_f hf b26
        refine zq_wg 3 (pc' := 41) (lv' := [some (.ref y15), some (.ref y16), some (.int y17), some (.int y18), some (.int y19)]) (st' := [.ref y15, .ref y16, .ref y15]) (h' := h22) rfl ?_
        obtain ⟨v27, e28, hf⟩ := zo_b_s hf
        refine zr_gI rfl rfl (by decide) rfl e28 ?_
        refine zq_wg 1 (pc' := 45) (lv' := [some (.ref y15), some (.ref y16), some (.int y17), some (.int y18), some (.int y19)]) (st' := [.int y18, .int v27, .ref y16, .ref y15]) (h' := h22) rfl ?_
        obtain ⟨e32, v30, h29, e31, hf⟩ := zo_v_s hf
        refine zr_cv zq_m92 [.int v27, .int y18] [.ref y15] rfl rfl rfl rfl rfl (Nat.le_of_ble_eq_true rfl) (Nat.le_of_ble_eq_true rfl) e32 (zx_Army_after_ok sc d (by omega) e31) ?_
        refine zq_wg 0 (pc' := 48) (lv' := [some (.ref y15), some (.ref y16), some (.int y17), some (.int y18), some (.int y19)]) (st' := [.int v30, .ref y15]) (h' := h29) rfl ?_
        obtain ⟨h33, e34, hf⟩ := zo_b_s hf
        refine zr_pI rfl rfl (by decide) rfl rfl e34 ?_
        refine zq_wg 2 (pc' := 53) (lv' := [some (.ref y15), some (.ref y16), some (.int y17), some (.int y18), some (.int y19)]) (st' := [.ref y15, .ref y15]) (h' := h33) rfl ?_
        obtain ⟨v35, e36, hf⟩ := zo_b_s hf
        refine zr_gI rfl rfl (by decide) rfl e36 ?_
        refine zq_wg 2 (pc' := 58) (lv' := [some (.ref y15), some (.ref y16), some (.int y17), some (.int y18), some (.int y19)]) (st' := [.int (v35 + (1 : Int32)), .ref y15]) (h' := h33) rfl ?_
        obtain ⟨h37, e38, hf⟩ := zo_b_s hf
        refine zr_pI rfl rfl (by decide) rfl rfl e38 ?_
        refine zq_wg 3 (pc' := 66) (lv' := [some (.ref y15), some (.ref y16), some (.int y17), some (.int y18), some (.int (y19 + (1 : Int32)))]) (st' := [.ref y16, .ref y15]) (h' := h37) rfl ?_
        obtain ⟨v39, e40, hf⟩ := zo_b_s hf
        refine zr_gI rfl rfl (by decide) rfl e40 ?_
        obtain ⟨j89_48, hjj89_48, hf⟩ := zo_lj hf
        have kj89_48 : ∀ (x41 : Nat) (x42 : Nat) (x43 : Int32) (x44 : Int32) (x45 : Int32) (x46 : Nat) (x47 : Int32) (h48 : zH), j89_48 x41 x42 x43 x44 x45 x46 x47 h48 = some (ro_, ho_) → zq_wp sc (d + 1) 89 89 [some (.ref x41), some (.ref x42), some (.int x43), some (.int x44), some (.int x45)] [.int x47, .ref x46] h48 (some (.int ro_), ho_) := by
          intro x41 x42 x43 x44 x45 x46 x47 h48 hf
          rw [hjj89_48] at hf
          obtain ⟨h49, e50, hf⟩ := zo_b_s hf
          refine zr_pB rfl rfl (by decide) rfl rfl e50 ?_
          refine zq_wg 1 (pc' := 24) (lv' := [some (.ref x41), some (.ref x42), some (.int x43), some (.int x44), some (.int x45)]) (st' := []) (h' := h49) rfl ?_
          exact ih x41 x42 x43 x44 x45 h49 _ _ hf
        obtain ⟨j88_57, hjj88_57, hf⟩ := zo_lj hf
        have kj88_57 : ∀ (x51 : Nat) (x52 : Nat) (x53 : Int32) (x54 : Int32) (x55 : Int32) (x56 : Nat) (h57 : zH), j88_57 x51 x52 x53 x54 x55 x56 h57 = some (ro_, ho_) → zq_wp sc (d + 1) 89 88 [some (.ref x51), some (.ref x52), some (.int x53), some (.int x54), some (.int x55)] [.ref x56] h57 (some (.int ro_), ho_) := by
          intro x51 x52 x53 x54 x55 x56 h57 hf
          rw [hjj88_57] at hf
          refine zq_wg 1 (pc' := 89) (lv' := [some (.ref x51), some (.ref x52), some (.int x53), some (.int x54), some (.int x55)]) (st' := [.int (0 : Int32), .ref x56]) (h' := h57) rfl ?_
          exact kj89_48 x51 x52 x53 x54 x55 x56 (0 : Int32) h57 hf
        refine zr_if (v39 ≤ 0) 88 72 (st' := [.ref y15]) rfl rfl (fun b58 => ?_) (fun b58 => ?_)
        · have hf := zo_t hf b58
          exact kj88_57 y15 y16 y17 y18 (y19 + (1 : Int32)) y15 h37 hf
        · have hf := zo_f hf b58
          refine zq_wg 1 (pc' := 73) (lv' := [some (.ref y15), some (.ref y16), some (.int y17), some (.int y18), some (.int (y19 + (1 : Int32)))]) (st' := [.ref y15, .ref y15]) (h' := h37) rfl ?_
          obtain ⟨v59, e60, hf⟩ := zo_b_s hf
          refine zr_gI rfl rfl (by decide) rfl e60 ?_
          refine zq_wg 1 (pc' := 77) (lv' := [some (.ref y15), some (.ref y16), some (.int y17), some (.int y18), some (.int (y19 + (1 : Int32)))]) (st' := [.ref y16, .int v59, .ref y15]) (h' := h37) rfl ?_
          obtain ⟨v61, e62, hf⟩ := zo_b_s hf
          refine zr_gI rfl rfl (by decide) rfl e62 ?_
          obtain ⟨v63, e64, hf⟩ := zo_b_s hf
          refine zr_irem rfl e64 ?_
          refine zr_if (v63 = 0) 84 88 (st' := [.ref y15]) rfl rfl (fun b65 => ?_) (fun b65 => ?_)
          · have hf := zo_t hf b65
            refine zq_wg 2 (pc' := 89) (lv' := [some (.ref y15), some (.ref y16), some (.int y17), some (.int y18), some (.int (y19 + (1 : Int32)))]) (st' := [.int (1 : Int32), .ref y15]) (h' := h37) rfl ?_
            exact kj89_48 y15 y16 y17 y18 (y19 + (1 : Int32)) y15 (1 : Int32) h37 hf
          · have hf := zo_f hf b65
            exact kj88_57 y15 y16 y17 y18 (y19 + (1 : Int32)) y15 h37 hf
set_option maxRecDepth 4000 in
theorem zx_State_pass_ok (sc : zX) (d : Nat) (hd : 4 ≤ d) {a0 : Nat} {a1 : Nat} {a2 : Int32} {h : zH} {ro_ : Int32} {ho_ : zH} (hf : zx_State_pass sc a0 a1 a2 h = some (ro_, ho_)) : zq_wm sc d 89 [.ref a0, .ref a1, .int a2] h (some (.int ro_), ho_) := by
  unfold zx_State_pass at hf
  obtain ⟨d, rfl⟩ : ∃ d', d = d' + 1 := ⟨d - 1, by omega⟩
  have hd : 3 ≤ d := by omega
  show zq_wp sc (d + 1) 89 0 [some (.ref a0), some (.ref a1), some (.int a2), none, none] [] h _
  refine zq_wg 3 (pc' := 3) (lv' := [some (.ref a0), some (.ref a1), some (.int a2), none, none]) (st' := [.ref a0, .ref a1, .ref a1]) (h' := h) rfl ?_
  obtain ⟨v1, e2, hf⟩ := zo_b_s hf
  refine zr_gR rfl rfl (by decide) rfl e2 ?_
  obtain ⟨e6, v4, h3, e5, hf⟩ := zo_v_s hf
  refine zr_cv zq_m74 [.ref v1] [.ref a1] rfl rfl rfl rfl rfl (Nat.le_of_ble_eq_true rfl) (Nat.le_of_ble_eq_true rfl) e6 (zx_Army_strength_ok sc d (by omega) e5) ?_
  refine zq_wg 0 (pc' := 9) (lv' := [some (.ref a0), some (.ref a1), some (.int a2), none, none]) (st' := [.int v4, .ref a1]) (h' := h3) rfl ?_
  refine zq_wg 1 (pc' := 10) (lv' := [some (.ref a0), some (.ref a1), some (.int a2), none, none]) (st' := [.ref a1, .int v4, .ref a1]) (h' := h3) rfl ?_
  obtain ⟨v7, e8, hf⟩ := zo_b_s hf
  refine zr_gI rfl rfl (by decide) rfl e8 ?_
  refine zq_wg 1 (pc' := 14) (lv' := [some (.ref a0), some (.ref a1), some (.int a2), none, none]) (st' := [.ref a0, .int v7, .int v4, .ref a1]) (h' := h3) rfl ?_
  obtain ⟨v9, e10, hf⟩ := zo_b_s hf
  refine zr_gI rfl rfl (by decide) rfl e10 ?_
  obtain ⟨e14, v12, h11, e13, hf⟩ := zo_v_s hf
  refine zr_cv zq_m90 [.int v4, .int v7, .int v9] [] rfl rfl rfl rfl rfl (Nat.le_of_ble_eq_true rfl) (Nat.le_of_ble_eq_true rfl) e14 (zx_Army_move_ok sc d (by omega) e13) ?_
  refine zq_wg 0 (pc' := 20) (lv' := [some (.ref a0), some (.ref a1), some (.int a2), none, none]) (st' := [.int v12]) (h' := h11) rfl ?_
  refine zq_wg 3 (pc' := 24) (lv' := [some (.ref a0), some (.ref a1), some (.int a2), some (.int v12), some (.int (0 : Int32))]) (st' := []) (h' := h11) rfl ?_
  refine zx_State_pass_l24_ok sc d hd zo_F a0 a1 a2 v12 (0 : Int32) h11 _ _ hf
set_option maxRecDepth 4000 in
def zx_weeks (sc : zX) (a0 : Nat) (a1 : Int32) (h : zH) : Option (Int32 × zH) := zo_c (zx_within sc a1 (1 : Int32) (13 : Int32) h) (fun v2 h1 => if v2 = 0 then (some ((-1 : Int32), h1)) else (zo_b (zo_gR h1 9 a0 1) (fun v5 => zo_b (zo_gR h1 9 a0 11) (fun v7 => zo_v h1 v5 4 (zx_State_canPass sc v5 v7 h1) (fun v10 h9 => if v10 = 0 then (some ((-1 : Int32), h9)) else (zo_v h9 a0 9 (zx_remember sc a0 h9) (fun w15 h14 => zo_b (zo_gR h14 9 a0 1) (fun v18 => zo_b (zo_gR h14 9 a0 11) (fun v20 => zo_v h14 v18 4 (zx_State_pass sc v18 v20 a1 h14) (fun v23 h22 => some (v23, h22)))))))))))
set_option maxRecDepth 4000 in
theorem zx_weeks_ok (sc : zX) (d : Nat) (hd : 5 ≤ d) {a0 : Nat} {a1 : Int32} {h : zH} {ro_ : Int32} {ho_ : zH} (hf : zx_weeks sc a0 a1 h = some (ro_, ho_)) : zq_wm sc d 87 [.ref a0, .int a1] h (some (.int ro_), ho_) := by
  unfold zx_weeks at hf
  obtain ⟨d, rfl⟩ : ∃ d', d = d' + 1 := ⟨d - 1, by omega⟩
  have hd : 4 ≤ d := by omega
  show zq_wp sc (d + 1) 87 0 [some (.ref a0), some (.int a1)] [] h _
  refine zq_wg 3 (pc' := 4) (lv' := [some (.ref a0), some (.int a1)]) (st' := [.int (13 : Int32), .int (1 : Int32), .int a1]) (h' := h) rfl ?_
  obtain ⟨v2, h1, e3, hf⟩ := zo_c_s hf
  refine zr_cs zq_m35 [.int a1, .int (1 : Int32), .int (13 : Int32)] [] rfl rfl (by decide) rfl rfl rfl (Nat.le_of_ble_eq_true rfl) (Nat.le_of_ble_eq_true rfl) (zx_within_ok sc d (by omega) e3) ?_
  refine zq_wg 0 (pc' := 7) (lv' := [some (.ref a0), some (.int a1)]) (st' := [.int v2]) (h' := h1) rfl ?_
  refine zr_if (v2 = 0) 24 10 (st' := []) rfl rfl (fun b4 => ?_) (fun b4 => ?_)
  · have hf := zo_t hf b4
    refine zq_wg 1 (pc' := 25) (lv' := [some (.ref a0), some (.int a1)]) (st' := [.int (-1 : Int32)]) (h' := h1) rfl ?_
    exact zr_ri rfl rfl rfl hf
  · have hf := zo_f hf b4
    refine zq_wg 1 (pc' := 11) (lv' := [some (.ref a0), some (.int a1)]) (st' := [.ref a0]) (h' := h1) rfl ?_
    obtain ⟨v5, e6, hf⟩ := zo_b_s hf
    refine zr_gR rfl rfl (by decide) rfl e6 ?_
    refine zq_wg 1 (pc' := 15) (lv' := [some (.ref a0), some (.int a1)]) (st' := [.ref a0, .ref v5]) (h' := h1) rfl ?_
    obtain ⟨v7, e8, hf⟩ := zo_b_s hf
    refine zr_gR rfl rfl (by decide) rfl e8 ?_
    obtain ⟨e12, v10, h9, e11, hf⟩ := zo_v_s hf
    refine zr_cv zq_m88 [.ref v7] [] rfl rfl rfl rfl rfl (Nat.le_of_ble_eq_true rfl) (Nat.le_of_ble_eq_true rfl) e12 (zx_State_canPass_ok sc d (by omega) e11) ?_
    refine zq_wg 0 (pc' := 21) (lv' := [some (.ref a0), some (.int a1)]) (st' := [.int v10]) (h' := h9) rfl ?_
    refine zr_if (v10 = 0) 24 26 (st' := []) rfl rfl (fun b13 => ?_) (fun b13 => ?_)
    · have hf := zo_t hf b13
      refine zq_wg 1 (pc' := 25) (lv' := [some (.ref a0), some (.int a1)]) (st' := [.int (-1 : Int32)]) (h' := h9) rfl ?_
      exact zr_ri rfl rfl rfl hf
    · have hf := zo_f hf b13
      refine zq_wg 1 (pc' := 27) (lv' := [some (.ref a0), some (.int a1)]) (st' := [.ref a0]) (h' := h9) rfl ?_
      obtain ⟨e17, w15, h14, e16, hf⟩ := zo_v_s hf
      refine zr_cv zq_m77 [] [] rfl rfl rfl rfl rfl (Nat.le_of_ble_eq_true rfl) (Nat.le_of_ble_eq_true rfl) e17 (zx_remember_ok sc d (by omega) e16) ?_
      refine zq_wg 0 (pc' := 30) (lv' := [some (.ref a0), some (.int a1)]) (st' := []) (h' := h14) rfl ?_
      refine zq_wg 1 (pc' := 31) (lv' := [some (.ref a0), some (.int a1)]) (st' := [.ref a0]) (h' := h14) rfl ?_
      obtain ⟨v18, e19, hf⟩ := zo_b_s hf
      refine zr_gR rfl rfl (by decide) rfl e19 ?_
      refine zq_wg 1 (pc' := 35) (lv' := [some (.ref a0), some (.int a1)]) (st' := [.ref a0, .ref v18]) (h' := h14) rfl ?_
      obtain ⟨v20, e21, hf⟩ := zo_b_s hf
      refine zr_gR rfl rfl (by decide) rfl e21 ?_
      refine zq_wg 1 (pc' := 39) (lv' := [some (.ref a0), some (.int a1)]) (st' := [.int a1, .ref v20, .ref v18]) (h' := h14) rfl ?_
      obtain ⟨e25, v23, h22, e24, hf⟩ := zo_v_s hf
      refine zr_cv zq_m89 [.ref v20, .int a1] [] rfl rfl rfl rfl rfl (Nat.le_of_ble_eq_true rfl) (Nat.le_of_ble_eq_true rfl) e25 (zx_State_pass_ok sc d (by omega) e24) ?_
      refine zq_wg 0 (pc' := 42) (lv' := [some (.ref a0), some (.int a1)]) (st' := [.int v23]) (h' := h22) rfl ?_
      exact zr_ri rfl rfl rfl hf
set_option maxRecDepth 4000 in
def zx_undo (sc : zX) (a0 : Nat) (h : zH) : Option (Int32 × zH) := zo_b (zo_gI h 9 a0 16) (fun v1 => zo_b (zo_rm ((v1 + (16 : Int32)) - (1 : Int32)) (16 : Int32)) (fun v3 => zo_b (zo_gI h 9 a0 15) (fun v5 => if v5 ≤ 0 then (some ((0 : Int32), h)) else (if 0 ≤ v3 then (zo_b (zo_gR h 9 a0 1) (fun v9 => zo_b (zo_gR h 9 a0 7) (fun v11 => zo_b (zo_rdR h v11 v3) (fun v13 => zo_v h v9 4 (zx_State_copyFrom sc v9 v13 h) (fun w16 h15 => zo_b (zo_pI h15 9 a0 16 v3) (fun h19 => zo_b (zo_gI h19 9 a0 15) (fun v21 => zo_b (zo_pI h19 9 a0 15 (v21 - (1 : Int32))) (fun h23 => some ((1 : Int32), h23))))))))) else (some ((0 : Int32), h))))))
set_option maxRecDepth 4000 in
theorem zx_undo_ok (sc : zX) (d : Nat) (hd : 2 ≤ d) {a0 : Nat} {h : zH} {ro_ : Int32} {ho_ : zH} (hf : zx_undo sc a0 h = some (ro_, ho_)) : zq_wm sc d 93 [.ref a0] h (some (.int ro_), ho_) := by
  unfold zx_undo at hf
  obtain ⟨d, rfl⟩ : ∃ d', d = d' + 1 := ⟨d - 1, by omega⟩
  have hd : 1 ≤ d := by omega
  show zq_wp sc (d + 1) 93 0 [some (.ref a0), none] [] h _
  refine zq_wg 1 (pc' := 1) (lv' := [some (.ref a0), none]) (st' := [.ref a0]) (h' := h) rfl ?_
  obtain ⟨v1, e2, hf⟩ := zo_b_s hf
  refine zr_gI rfl rfl (by decide) rfl e2 ?_
  refine zq_wg 5 (pc' := 11) (lv' := [some (.ref a0), none]) (st' := [.int (16 : Int32), .int ((v1 + (16 : Int32)) - (1 : Int32))]) (h' := h) rfl ?_
  obtain ⟨v3, e4, hf⟩ := zo_b_s hf
  refine zr_irem rfl e4 ?_
  refine zq_wg 2 (pc' := 14) (lv' := [some (.ref a0), some (.int v3)]) (st' := [.ref a0]) (h' := h) rfl ?_
  obtain ⟨v5, e6, hf⟩ := zo_b_s hf
  refine zr_gI rfl rfl (by decide) rfl e6 ?_
  refine zr_if (v5 ≤ 0) 24 20 (st' := []) rfl rfl (fun b7 => ?_) (fun b7 => ?_)
  · have hf := zo_t hf b7
    refine zq_wg 1 (pc' := 25) (lv' := [some (.ref a0), some (.int v3)]) (st' := [.int (0 : Int32)]) (h' := h) rfl ?_
    exact zr_ri rfl rfl rfl hf
  · have hf := zo_f hf b7
    refine zq_wg 1 (pc' := 21) (lv' := [some (.ref a0), some (.int v3)]) (st' := [.int v3]) (h' := h) rfl ?_
    refine zr_if (0 ≤ v3) 26 24 (st' := []) rfl rfl (fun b8 => ?_) (fun b8 => ?_)
    · have hf := zo_t hf b8
      refine zq_wg 1 (pc' := 27) (lv' := [some (.ref a0), some (.int v3)]) (st' := [.ref a0]) (h' := h) rfl ?_
      obtain ⟨v9, e10, hf⟩ := zo_b_s hf
      refine zr_gR rfl rfl (by decide) rfl e10 ?_
      refine zq_wg 1 (pc' := 31) (lv' := [some (.ref a0), some (.int v3)]) (st' := [.ref a0, .ref v9]) (h' := h) rfl ?_
      obtain ⟨v11, e12, hf⟩ := zo_b_s hf
      refine zr_gR rfl rfl (by decide) rfl e12 ?_
      refine zq_wg 1 (pc' := 35) (lv' := [some (.ref a0), some (.int v3)]) (st' := [.int v3, .ref v11, .ref v9]) (h' := h) rfl ?_
      obtain ⟨v13, e14, hf⟩ := zo_b_s hf
      refine zr_aald rfl e14 ?_
      obtain ⟨e18, w16, h15, e17, hf⟩ := zo_v_s hf
      refine zr_cv zq_m78 [.ref v13] [] rfl rfl rfl rfl rfl (Nat.le_of_ble_eq_true rfl) (Nat.le_of_ble_eq_true rfl) e18 (zx_State_copyFrom_ok sc d (by omega) e17) ?_
      refine zq_wg 0 (pc' := 39) (lv' := [some (.ref a0), some (.int v3)]) (st' := []) (h' := h15) rfl ?_
      refine zq_wg 2 (pc' := 41) (lv' := [some (.ref a0), some (.int v3)]) (st' := [.int v3, .ref a0]) (h' := h15) rfl ?_
      obtain ⟨h19, e20, hf⟩ := zo_b_s hf
      refine zr_pI rfl rfl (by decide) rfl rfl e20 ?_
      refine zq_wg 2 (pc' := 46) (lv' := [some (.ref a0), some (.int v3)]) (st' := [.ref a0, .ref a0]) (h' := h19) rfl ?_
      obtain ⟨v21, e22, hf⟩ := zo_b_s hf
      refine zr_gI rfl rfl (by decide) rfl e22 ?_
      refine zq_wg 2 (pc' := 51) (lv' := [some (.ref a0), some (.int v3)]) (st' := [.int (v21 - (1 : Int32)), .ref a0]) (h' := h19) rfl ?_
      obtain ⟨h23, e24, hf⟩ := zo_b_s hf
      refine zr_pI rfl rfl (by decide) rfl rfl e24 ?_
      refine zq_wg 1 (pc' := 55) (lv' := [some (.ref a0), some (.int v3)]) (st' := [.int (1 : Int32)]) (h' := h23) rfl ?_
      exact zr_ri rfl rfl rfl hf
    · have hf := zo_f hf b8
      refine zq_wg 1 (pc' := 25) (lv' := [some (.ref a0), some (.int v3)]) (st' := [.int (0 : Int32)]) (h' := h) rfl ?_
      exact zr_ri rfl rfl rfl hf
set_option maxRecDepth 4000 in
def zx_War_runLine (sc : zX) (a0 : Nat) (a1 : Int32) (a2 : Nat) (a3 : Nat) (a4 : Nat) (h : zH) : Option (Int32 × zH) := zo_b (zo_gR h 7 a0 1) (fun v1 => zo_c (zx_at sc v1 a1 h) (fun v4 h3 => zo_b (zo_gR h3 7 a0 2) (fun v6 => zo_c (zx_at sc v6 a1 h3) (fun v9 h8 => if v4 = 0 then (zo_v h8 a4 3 (zx_Raffle_sow sc a4 v9 h8) (fun w13 h12 => zo_v h12 a4 3 (zx_Raffle_deal sc a4 a2 a3 h12) (fun w17 h16 => some ((1 : Int32), h16)))) else (if v4 = (1 : Int32) then (zo_b (zo_gR h8 7 a0 3) (fun v21 => zo_c (zx_at sc v21 a1 h8) (fun v24 h23 => zo_b (zo_gR h23 7 a0 4) (fun v26 => zo_c (zx_at sc v26 a1 h23) (fun v29 h28 => zo_v h28 a3 4 (zx_State_canTrade sc a3 a2 v9 v24 v29 h28) (fun v32 h31 => if v32 = 0 then (zo_rb v32 h31) else (zo_b (zo_gR h31 7 a0 3) (fun v36 => zo_c (zx_at sc v36 a1 h31) (fun v39 h38 => zo_b (zo_gR h38 7 a0 4) (fun v41 => zo_c (zx_at sc v41 a1 h38) (fun v44 h43 => zo_v h43 a3 4 (zx_State_trade sc a3 v9 v39 v44 h43) (fun w47 h46 => zo_rb v32 h46)))))))))))) else (if v4 = (2 : Int32) then (zo_v h8 a3 4 (zx_State_canCommand sc a3 v9 h8) (fun v52 h51 => if v52 = 0 then (zo_rb v52 h51) else (zo_b (zo_pI h51 4 a3 2 v9) (fun h56 => zo_rb v52 h56)))) else (zo_v h8 a3 4 (zx_State_pass sc a3 a2 v9 h8) (fun v59 h58 => if v59 = v9 then (some ((1 : Int32), h58)) else (some ((0 : Int32), h58))))))))))
set_option maxRecDepth 4000 in
theorem zx_War_runLine_ok (sc : zX) (d : Nat) (hd : 5 ≤ d) {a0 : Nat} {a1 : Int32} {a2 : Nat} {a3 : Nat} {a4 : Nat} {h : zH} {ro_ : Int32} {ho_ : zH} (hf : zx_War_runLine sc a0 a1 a2 a3 a4 h = some (ro_, ho_)) : zq_wm sc d 96 [.ref a0, .int a1, .ref a2, .ref a3, .ref a4] h (some (.int ro_), ho_) := by
  unfold zx_War_runLine at hf
  obtain ⟨d, rfl⟩ : ∃ d', d = d' + 1 := ⟨d - 1, by omega⟩
  have hd : 4 ≤ d := by omega
  show zq_wp sc (d + 1) 96 0 [some (.ref a0), some (.int a1), some (.ref a2), some (.ref a3), some (.ref a4), none, none, none] [] h _
  refine zq_wg 1 (pc' := 1) (lv' := [some (.ref a0), some (.int a1), some (.ref a2), some (.ref a3), some (.ref a4), none, none, none]) (st' := [.ref a0]) (h' := h) rfl ?_
  obtain ⟨v1, e2, hf⟩ := zo_b_s hf
  refine zr_gR rfl rfl (by decide) rfl e2 ?_
  refine zq_wg 1 (pc' := 5) (lv' := [some (.ref a0), some (.int a1), some (.ref a2), some (.ref a3), some (.ref a4), none, none, none]) (st' := [.int a1, .ref v1]) (h' := h) rfl ?_
  obtain ⟨v4, h3, e5, hf⟩ := zo_c_s hf
  refine zr_cs zq_m12 [.ref v1, .int a1] [] rfl rfl (by decide) rfl rfl rfl (Nat.le_of_ble_eq_true rfl) (Nat.le_of_ble_eq_true rfl) (zx_at_ok sc d (by omega) e5) ?_
  refine zq_wg 0 (pc' := 8) (lv' := [some (.ref a0), some (.int a1), some (.ref a2), some (.ref a3), some (.ref a4), none, none, none]) (st' := [.int v4]) (h' := h3) rfl ?_
  refine zq_wg 2 (pc' := 11) (lv' := [some (.ref a0), some (.int a1), some (.ref a2), some (.ref a3), some (.ref a4), some (.int v4), none, none]) (st' := [.ref a0]) (h' := h3) rfl ?_
  obtain ⟨v6, e7, hf⟩ := zo_b_s hf
  refine zr_gR rfl rfl (by decide) rfl e7 ?_
  refine zq_wg 1 (pc' := 15) (lv' := [some (.ref a0), some (.int a1), some (.ref a2), some (.ref a3), some (.ref a4), some (.int v4), none, none]) (st' := [.int a1, .ref v6]) (h' := h3) rfl ?_
  obtain ⟨v9, h8, e10, hf⟩ := zo_c_s hf
  refine zr_cs zq_m12 [.ref v6, .int a1] [] rfl rfl (by decide) rfl rfl rfl (Nat.le_of_ble_eq_true rfl) (Nat.le_of_ble_eq_true rfl) (zx_at_ok sc d (by omega) e10) ?_
  refine zq_wg 0 (pc' := 18) (lv' := [some (.ref a0), some (.int a1), some (.ref a2), some (.ref a3), some (.ref a4), some (.int v4), none, none]) (st' := [.int v9]) (h' := h8) rfl ?_
  refine zq_wg 2 (pc' := 22) (lv' := [some (.ref a0), some (.int a1), some (.ref a2), some (.ref a3), some (.ref a4), some (.int v4), some (.int v9), none]) (st' := [.int v4]) (h' := h8) rfl ?_
  refine zr_if (v4 = 0) 25 41 (st' := []) rfl rfl (fun b11 => ?_) (fun b11 => ?_)
  · have hf := zo_t hf b11
    refine zq_wg 2 (pc' := 29) (lv' := [some (.ref a0), some (.int a1), some (.ref a2), some (.ref a3), some (.ref a4), some (.int v4), some (.int v9), none]) (st' := [.int v9, .ref a4]) (h' := h8) rfl ?_
    obtain ⟨e15, w13, h12, e14, hf⟩ := zo_v_s hf
    refine zr_cv zq_m79 [.int v9] [] rfl rfl rfl rfl rfl (Nat.le_of_ble_eq_true rfl) (Nat.le_of_ble_eq_true rfl) e15 (zx_Raffle_sow_ok sc d (by omega) e14) ?_
    refine zq_wg 0 (pc' := 32) (lv' := [some (.ref a0), some (.int a1), some (.ref a2), some (.ref a3), some (.ref a4), some (.int v4), some (.int v9), none]) (st' := []) (h' := h12) rfl ?_
    refine zq_wg 3 (pc' := 36) (lv' := [some (.ref a0), some (.int a1), some (.ref a2), some (.ref a3), some (.ref a4), some (.int v4), some (.int v9), none]) (st' := [.ref a3, .ref a2, .ref a4]) (h' := h12) rfl ?_
    obtain ⟨e19, w17, h16, e18, hf⟩ := zo_v_s hf
    refine zr_cv zq_m80 [.ref a2, .ref a3] [] rfl rfl rfl rfl rfl (Nat.le_of_ble_eq_true rfl) (Nat.le_of_ble_eq_true rfl) e19 (zx_Raffle_deal_ok sc d (by omega) e18) ?_
    refine zq_wg 0 (pc' := 39) (lv' := [some (.ref a0), some (.int a1), some (.ref a2), some (.ref a3), some (.ref a4), some (.int v4), some (.int v9), none]) (st' := []) (h' := h16) rfl ?_
    refine zq_wg 1 (pc' := 40) (lv' := [some (.ref a0), some (.int a1), some (.ref a2), some (.ref a3), some (.ref a4), some (.int v4), some (.int v9), none]) (st' := [.int (1 : Int32)]) (h' := h16) rfl ?_
    exact zr_ri rfl rfl rfl hf
  · have hf := zo_f hf b11
    refine zq_wg 2 (pc' := 44) (lv' := [some (.ref a0), some (.int a1), some (.ref a2), some (.ref a3), some (.ref a4), some (.int v4), some (.int v9), none]) (st' := [.int (1 : Int32), .int v4]) (h' := h8) rfl ?_
    refine zr_if (v4 = (1 : Int32)) 47 102 (st' := []) rfl rfl (fun b20 => ?_) (fun b20 => ?_)
    · have hf := zo_t hf b20
      refine zq_wg 4 (pc' := 52) (lv' := [some (.ref a0), some (.int a1), some (.ref a2), some (.ref a3), some (.ref a4), some (.int v4), some (.int v9), none]) (st' := [.ref a0, .int v9, .ref a2, .ref a3]) (h' := h8) rfl ?_
      obtain ⟨v21, e22, hf⟩ := zo_b_s hf
      refine zr_gR rfl rfl (by decide) rfl e22 ?_
      refine zq_wg 1 (pc' := 56) (lv' := [some (.ref a0), some (.int a1), some (.ref a2), some (.ref a3), some (.ref a4), some (.int v4), some (.int v9), none]) (st' := [.int a1, .ref v21, .int v9, .ref a2, .ref a3]) (h' := h8) rfl ?_
      obtain ⟨v24, h23, e25, hf⟩ := zo_c_s hf
      refine zr_cs zq_m12 [.ref v21, .int a1] [.int v9, .ref a2, .ref a3] rfl rfl (by decide) rfl rfl rfl (Nat.le_of_ble_eq_true rfl) (Nat.le_of_ble_eq_true rfl) (zx_at_ok sc d (by omega) e25) ?_
      refine zq_wg 0 (pc' := 59) (lv' := [some (.ref a0), some (.int a1), some (.ref a2), some (.ref a3), some (.ref a4), some (.int v4), some (.int v9), none]) (st' := [.int v24, .int v9, .ref a2, .ref a3]) (h' := h23) rfl ?_
      refine zq_wg 1 (pc' := 60) (lv' := [some (.ref a0), some (.int a1), some (.ref a2), some (.ref a3), some (.ref a4), some (.int v4), some (.int v9), none]) (st' := [.ref a0, .int v24, .int v9, .ref a2, .ref a3]) (h' := h23) rfl ?_
      obtain ⟨v26, e27, hf⟩ := zo_b_s hf
      refine zr_gR rfl rfl (by decide) rfl e27 ?_
      refine zq_wg 1 (pc' := 64) (lv' := [some (.ref a0), some (.int a1), some (.ref a2), some (.ref a3), some (.ref a4), some (.int v4), some (.int v9), none]) (st' := [.int a1, .ref v26, .int v24, .int v9, .ref a2, .ref a3]) (h' := h23) rfl ?_
      obtain ⟨v29, h28, e30, hf⟩ := zo_c_s hf
      refine zr_cs zq_m12 [.ref v26, .int a1] [.int v24, .int v9, .ref a2, .ref a3] rfl rfl (by decide) rfl rfl rfl (Nat.le_of_ble_eq_true rfl) (Nat.le_of_ble_eq_true rfl) (zx_at_ok sc d (by omega) e30) ?_
      refine zq_wg 0 (pc' := 67) (lv' := [some (.ref a0), some (.int a1), some (.ref a2), some (.ref a3), some (.ref a4), some (.int v4), some (.int v9), none]) (st' := [.int v29, .int v24, .int v9, .ref a2, .ref a3]) (h' := h28) rfl ?_
      obtain ⟨e34, v32, h31, e33, hf⟩ := zo_v_s hf
      refine zr_cv zq_m83 [.ref a2, .int v9, .int v24, .int v29] [] rfl rfl rfl rfl rfl (Nat.le_of_ble_eq_true rfl) (Nat.le_of_ble_eq_true rfl) e34 (zx_State_canTrade_ok sc d (by omega) e33) ?_
      refine zq_wg 0 (pc' := 70) (lv' := [some (.ref a0), some (.int a1), some (.ref a2), some (.ref a3), some (.ref a4), some (.int v4), some (.int v9), none]) (st' := [.int v32]) (h' := h31) rfl ?_
      refine zq_wg 2 (pc' := 74) (lv' := [some (.ref a0), some (.int a1), some (.ref a2), some (.ref a3), some (.ref a4), some (.int v4), some (.int v9), some (.int v32)]) (st' := [.int v32]) (h' := h31) rfl ?_
      refine zr_if (v32 = 0) 99 77 (st' := []) rfl rfl (fun b35 => ?_) (fun b35 => ?_)
      · have hf := zo_t hf b35
        refine zq_wg 1 (pc' := 101) (lv' := [some (.ref a0), some (.int a1), some (.ref a2), some (.ref a3), some (.ref a4), some (.int v4), some (.int v9), some (.int v32)]) (st' := [.int v32]) (h' := h31) rfl ?_
        exact zr_rb rfl rfl hf
      · have hf := zo_f hf b35
        refine zq_wg 3 (pc' := 81) (lv' := [some (.ref a0), some (.int a1), some (.ref a2), some (.ref a3), some (.ref a4), some (.int v4), some (.int v9), some (.int v32)]) (st' := [.ref a0, .int v9, .ref a3]) (h' := h31) rfl ?_
        obtain ⟨v36, e37, hf⟩ := zo_b_s hf
        refine zr_gR rfl rfl (by decide) rfl e37 ?_
        refine zq_wg 1 (pc' := 85) (lv' := [some (.ref a0), some (.int a1), some (.ref a2), some (.ref a3), some (.ref a4), some (.int v4), some (.int v9), some (.int v32)]) (st' := [.int a1, .ref v36, .int v9, .ref a3]) (h' := h31) rfl ?_
        obtain ⟨v39, h38, e40, hf⟩ := zo_c_s hf
        refine zr_cs zq_m12 [.ref v36, .int a1] [.int v9, .ref a3] rfl rfl (by decide) rfl rfl rfl (Nat.le_of_ble_eq_true rfl) (Nat.le_of_ble_eq_true rfl) (zx_at_ok sc d (by omega) e40) ?_
        refine zq_wg 0 (pc' := 88) (lv' := [some (.ref a0), some (.int a1), some (.ref a2), some (.ref a3), some (.ref a4), some (.int v4), some (.int v9), some (.int v32)]) (st' := [.int v39, .int v9, .ref a3]) (h' := h38) rfl ?_
        refine zq_wg 1 (pc' := 89) (lv' := [some (.ref a0), some (.int a1), some (.ref a2), some (.ref a3), some (.ref a4), some (.int v4), some (.int v9), some (.int v32)]) (st' := [.ref a0, .int v39, .int v9, .ref a3]) (h' := h38) rfl ?_
        obtain ⟨v41, e42, hf⟩ := zo_b_s hf
        refine zr_gR rfl rfl (by decide) rfl e42 ?_
        refine zq_wg 1 (pc' := 93) (lv' := [some (.ref a0), some (.int a1), some (.ref a2), some (.ref a3), some (.ref a4), some (.int v4), some (.int v9), some (.int v32)]) (st' := [.int a1, .ref v41, .int v39, .int v9, .ref a3]) (h' := h38) rfl ?_
        obtain ⟨v44, h43, e45, hf⟩ := zo_c_s hf
        refine zr_cs zq_m12 [.ref v41, .int a1] [.int v39, .int v9, .ref a3] rfl rfl (by decide) rfl rfl rfl (Nat.le_of_ble_eq_true rfl) (Nat.le_of_ble_eq_true rfl) (zx_at_ok sc d (by omega) e45) ?_
        refine zq_wg 0 (pc' := 96) (lv' := [some (.ref a0), some (.int a1), some (.ref a2), some (.ref a3), some (.ref a4), some (.int v4), some (.int v9), some (.int v32)]) (st' := [.int v44, .int v39, .int v9, .ref a3]) (h' := h43) rfl ?_
        obtain ⟨e49, w47, h46, e48, hf⟩ := zo_v_s hf
        refine zr_cv zq_m84 [.int v9, .int v39, .int v44] [] rfl rfl rfl rfl rfl (Nat.le_of_ble_eq_true rfl) (Nat.le_of_ble_eq_true rfl) e49 (zx_State_trade_ok sc d (by omega) e48) ?_
        refine zq_wg 0 (pc' := 99) (lv' := [some (.ref a0), some (.int a1), some (.ref a2), some (.ref a3), some (.ref a4), some (.int v4), some (.int v9), some (.int v32)]) (st' := []) (h' := h46) rfl ?_
        refine zq_wg 1 (pc' := 101) (lv' := [some (.ref a0), some (.int a1), some (.ref a2), some (.ref a3), some (.ref a4), some (.int v4), some (.int v9), some (.int v32)]) (st' := [.int v32]) (h' := h46) rfl ?_
        exact zr_rb rfl rfl hf
    · have hf := zo_f hf b20
      refine zq_wg 2 (pc' := 105) (lv' := [some (.ref a0), some (.int a1), some (.ref a2), some (.ref a3), some (.ref a4), some (.int v4), some (.int v9), none]) (st' := [.int (2 : Int32), .int v4]) (h' := h8) rfl ?_
      refine zr_if (v4 = (2 : Int32)) 108 130 (st' := []) rfl rfl (fun b50 => ?_) (fun b50 => ?_)
      · have hf := zo_t hf b50
        refine zq_wg 2 (pc' := 111) (lv' := [some (.ref a0), some (.int a1), some (.ref a2), some (.ref a3), some (.ref a4), some (.int v4), some (.int v9), none]) (st' := [.int v9, .ref a3]) (h' := h8) rfl ?_
        obtain ⟨e54, v52, h51, e53, hf⟩ := zo_v_s hf
        refine zr_cv zq_m86 [.int v9] [] rfl rfl rfl rfl rfl (Nat.le_of_ble_eq_true rfl) (Nat.le_of_ble_eq_true rfl) e54 (zx_State_canCommand_ok sc d (by omega) e53) ?_
        refine zq_wg 0 (pc' := 114) (lv' := [some (.ref a0), some (.int a1), some (.ref a2), some (.ref a3), some (.ref a4), some (.int v4), some (.int v9), none]) (st' := [.int v52]) (h' := h51) rfl ?_
        refine zq_wg 2 (pc' := 118) (lv' := [some (.ref a0), some (.int a1), some (.ref a2), some (.ref a3), some (.ref a4), some (.int v4), some (.int v9), some (.int v52)]) (st' := [.int v52]) (h' := h51) rfl ?_
        refine zr_if (v52 = 0) 127 121 (st' := []) rfl rfl (fun b55 => ?_) (fun b55 => ?_)
        · have hf := zo_t hf b55
          refine zq_wg 1 (pc' := 129) (lv' := [some (.ref a0), some (.int a1), some (.ref a2), some (.ref a3), some (.ref a4), some (.int v4), some (.int v9), some (.int v52)]) (st' := [.int v52]) (h' := h51) rfl ?_
          exact zr_rb rfl rfl hf
        · have hf := zo_f hf b55
          refine zq_wg 2 (pc' := 124) (lv' := [some (.ref a0), some (.int a1), some (.ref a2), some (.ref a3), some (.ref a4), some (.int v4), some (.int v9), some (.int v52)]) (st' := [.int v9, .ref a3]) (h' := h51) rfl ?_
          obtain ⟨h56, e57, hf⟩ := zo_b_s hf
          refine zr_pI rfl rfl (by decide) rfl rfl e57 ?_
          refine zq_wg 1 (pc' := 129) (lv' := [some (.ref a0), some (.int a1), some (.ref a2), some (.ref a3), some (.ref a4), some (.int v4), some (.int v9), some (.int v52)]) (st' := [.int v52]) (h' := h56) rfl ?_
          exact zr_rb rfl rfl hf
      · have hf := zo_f hf b50
        refine zq_wg 3 (pc' := 134) (lv' := [some (.ref a0), some (.int a1), some (.ref a2), some (.ref a3), some (.ref a4), some (.int v4), some (.int v9), none]) (st' := [.int v9, .ref a2, .ref a3]) (h' := h8) rfl ?_
        obtain ⟨e61, v59, h58, e60, hf⟩ := zo_v_s hf
        refine zr_cv zq_m89 [.ref a2, .int v9] [] rfl rfl rfl rfl rfl (Nat.le_of_ble_eq_true rfl) (Nat.le_of_ble_eq_true rfl) e61 (zx_State_pass_ok sc d (by omega) e60) ?_
        refine zq_wg 0 (pc' := 137) (lv' := [some (.ref a0), some (.int a1), some (.ref a2), some (.ref a3), some (.ref a4), some (.int v4), some (.int v9), none]) (st' := [.int v59]) (h' := h58) rfl ?_
        refine zq_wg 1 (pc' := 139) (lv' := [some (.ref a0), some (.int a1), some (.ref a2), some (.ref a3), some (.ref a4), some (.int v4), some (.int v9), none]) (st' := [.int v9, .int v59]) (h' := h58) rfl ?_
        refine zr_if (v59 = v9) 142 146 (st' := []) rfl rfl (fun b62 => ?_) (fun b62 => ?_)
        · have hf := zo_t hf b62
          refine zq_wg 2 (pc' := 147) (lv' := [some (.ref a0), some (.int a1), some (.ref a2), some (.ref a3), some (.ref a4), some (.int v4), some (.int v9), none]) (st' := [.int (1 : Int32)]) (h' := h58) rfl ?_
          exact zr_ri rfl rfl rfl hf
        · have hf := zo_f hf b62
          refine zq_wg 1 (pc' := 147) (lv' := [some (.ref a0), some (.int a1), some (.ref a2), some (.ref a3), some (.ref a4), some (.int v4), some (.int v9), none]) (st' := [.int (0 : Int32)]) (h' := h58) rfl ?_
          exact zr_ri rfl rfl rfl hf
set_option maxRecDepth 4000 in
def zx_War_runOn_l6 (sc : zX) : Nat → Nat → Nat → Nat → Nat → Int32 → Int32 → zH → Option (Int32 × zH)
  | 0, _, _, _, _, _, _, _ => none
  | n + 1, y1, y2, y3, y4, y5, y6, h7 => zo_b (zo_gI h7 7 y1 0) (fun v8 => if v8 ≤ y6 then (some (y5, h7)) else (zo_v h7 y1 7 (zx_War_runLine sc y1 y6 y2 y3 y4 h7) (fun v12 h11 => zo_l (if v12 = 0 then (if y5 = (-1 : Int32) then y6 else y5) else y5) (fun (x15 : Int32) => zx_War_runOn_l6 sc n y1 y2 y3 y4 x15 (y6 + (1 : Int32)) h11 ))))
set_option maxRecDepth 4000 in
def zx_War_runOn (sc : zX) (a0 : Nat) (a1 : Nat) (a2 : Nat) (a3 : Nat) (h : zH) : Option (Int32 × zH) := zx_War_runOn_l6 sc zo_F a0 a1 a2 a3 (-1 : Int32) (0 : Int32) h 
set_option maxRecDepth 4000 in
theorem zx_War_runOn_l6_ok (sc : zX) (d : Nat) (hd : 5 ≤ d) : ∀ (n : Nat) (y1 : Nat) (y2 : Nat) (y3 : Nat) (y4 : Nat) (y5 : Int32) (y6 : Int32) (h7 : zH) (ro_ : Int32) (ho_ : zH),  zx_War_runOn_l6 sc n y1 y2 y3 y4 y5 y6 h7  = some (ro_, ho_) → zq_wp sc (d + 1) 95 6 [some (.ref y1), some (.ref y2), some (.ref y3), some (.ref y4), some (.int y5), some (.int y6)] [] h7 (some (.int ro_), ho_) := by
  intro n
  induction n with
  | zero => intro y1 y2 y3 y4 y5 y6 h7 ro_ ho_ hf; cases hf
  | succ n ih =>
    intro y1 y2 y3 y4 y5 y6 h7 ro_ ho_ hf
    refine zq_wg 2 (pc' := 9) (lv' := [some (.ref y1), some (.ref y2), some (.ref y3), some (.ref y4), some (.int y5), some (.int y6)]) (st' := [.ref y1, .int y6]) (h' := h7) rfl ?_
    obtain ⟨v8, e9, hf⟩ := zo_b_s hf
    refine zr_gI rfl rfl (by decide) rfl e9 ?_
    refine zr_if (v8 ≤ y6) 43 15 (st' := []) rfl rfl (fun b10 => ?_) (fun b10 => ?_)
    · have hf := zo_t hf b10
      refine zq_wg 1 (pc' := 45) (lv' := [some (.ref y1), some (.ref y2), some (.ref y3), some (.ref y4), some (.int y5), some (.int y6)]) (st' := [.int y5]) (h' := h7) rfl ?_
      exact zr_ri rfl rfl rfl hf
    · have hf := zo_f hf b10
      refine zq_wg 5 (pc' := 21) (lv' := [some (.ref y1), some (.ref y2), some (.ref y3), some (.ref y4), some (.int y5), some (.int y6)]) (st' := [.ref y4, .ref y3, .ref y2, .int y6, .ref y1]) (h' := h7) rfl ?_
      obtain ⟨e14, v12, h11, e13, hf⟩ := zo_v_s hf
      refine zr_cv zq_m96 [.int y6, .ref y2, .ref y3, .ref y4] [] rfl rfl rfl rfl rfl (Nat.le_of_ble_eq_true rfl) (Nat.le_of_ble_eq_true rfl) e14 (zx_War_runLine_ok sc d (by omega) e13) ?_
      refine zq_wg 0 (pc' := 24) (lv' := [some (.ref y1), some (.ref y2), some (.ref y3), some (.ref y4), some (.int y5), some (.int y6)]) (st' := [.int v12]) (h' := h11) rfl ?_
      obtain ⟨g37_15, hg37_15, hf⟩ := zo_lx hf
      have kg37_15 : ∀ (x15 : Int32), g37_15 x15 = some (ro_, ho_) → zq_wp sc (d + 1) 95 37 [some (.ref y1), some (.ref y2), some (.ref y3), some (.ref y4), some (.int x15), some (.int y6)] [] h11 (some (.int ro_), ho_) := by
        intro x15 hf
        rw [hg37_15] at hf
        refine zq_wg 2 (pc' := 6) (lv' := [some (.ref y1), some (.ref y2), some (.ref y3), some (.ref y4), some (.int x15), some (.int (y6 + (1 : Int32)))]) (st' := []) (h' := h11) rfl ?_
        exact ih y1 y2 y3 y4 x15 (y6 + (1 : Int32)) h11 _ _ hf
      refine zr_if (v12 = 0) 27 37 (st' := []) rfl rfl (fun b16 => ?_) (fun b16 => ?_)
      · have hf := zo_lt hf b16
        refine zq_wg 2 (pc' := 30) (lv' := [some (.ref y1), some (.ref y2), some (.ref y3), some (.ref y4), some (.int y5), some (.int y6)]) (st' := [.int (-1 : Int32), .int y5]) (h' := h11) rfl ?_
        refine zr_if (y5 = (-1 : Int32)) 33 37 (st' := []) rfl rfl (fun b17 => ?_) (fun b17 => ?_)
        · have hf := zo_lt hf b17
          refine zq_wg 2 (pc' := 37) (lv' := [some (.ref y1), some (.ref y2), some (.ref y3), some (.ref y4), some (.int y6), some (.int y6)]) (st' := []) (h' := h11) rfl ?_
          exact kg37_15 _ hf
        · have hf := zo_lf hf b17
          exact kg37_15 _ hf
      · have hf := zo_lf hf b16
        exact kg37_15 _ hf
set_option maxRecDepth 4000 in
theorem zx_War_runOn_ok (sc : zX) (d : Nat) (hd : 6 ≤ d) {a0 : Nat} {a1 : Nat} {a2 : Nat} {a3 : Nat} {h : zH} {ro_ : Int32} {ho_ : zH} (hf : zx_War_runOn sc a0 a1 a2 a3 h = some (ro_, ho_)) : zq_wm sc d 95 [.ref a0, .ref a1, .ref a2, .ref a3] h (some (.int ro_), ho_) := by
  unfold zx_War_runOn at hf
  obtain ⟨d, rfl⟩ : ∃ d', d = d' + 1 := ⟨d - 1, by omega⟩
  have hd : 5 ≤ d := by omega
  show zq_wp sc (d + 1) 95 0 [some (.ref a0), some (.ref a1), some (.ref a2), some (.ref a3), none, none] [] h _
  refine zq_wg 4 (pc' := 6) (lv' := [some (.ref a0), some (.ref a1), some (.ref a2), some (.ref a3), some (.int (-1 : Int32)), some (.int (0 : Int32))]) (st' := []) (h' := h) rfl ?_
  refine zx_War_runOn_l6_ok sc d hd zo_F a0 a1 a2 a3 (-1 : Int32) (0 : Int32) h _ _ hf
set_option maxRecDepth 4000 in
def zx_judged (sc : zX) (a0 : Nat) (a1 : Int32) (h : zH) : Option (Int32 × zH) := zo_c (zx_within sc a1 (0 : Int32) (2 : Int32) h) (fun v2 h1 => if v2 = 0 then (some ((-2 : Int32), h1)) else (zo_b (zo_gR h1 9 a0 2) (fun v5 => zo_b (zo_gR h1 9 a0 11) (fun v7 => zo_v h1 v5 4 (zx_State_begin sc v5 v7 h1) (fun w10 h9 => zo_b (zo_gR h9 9 a0 13) (fun v13 => zo_b (zo_gR h9 9 a0 11) (fun v15 => zo_b (zo_gR h9 9 a0 2) (fun v17 => zo_b (zo_gR h9 9 a0 6) (fun v19 => zo_v h9 v13 7 (zx_War_runOn sc v13 v15 v17 v19 h9) (fun v22 h21 => if a1 = 0 then (some (v22, h21)) else (if a1 = (1 : Int32) then (zo_b (zo_gR h21 9 a0 2) (fun v27 => zo_b (zo_gI h21 4 v27 3) (fun v29 => some (v29, h21)))) else (zo_b (zo_gR h21 9 a0 2) (fun v31 => zo_b (zo_gI h21 4 v31 4) (fun v33 => some (v33, h21)))))))))))))))
set_option maxRecDepth 4000 in
theorem zx_judged_ok (sc : zX) (d : Nat) (hd : 7 ≤ d) {a0 : Nat} {a1 : Int32} {h : zH} {ro_ : Int32} {ho_ : zH} (hf : zx_judged sc a0 a1 h = some (ro_, ho_)) : zq_wm sc d 94 [.ref a0, .int a1] h (some (.int ro_), ho_) := by
  unfold zx_judged at hf
  obtain ⟨d, rfl⟩ : ∃ d', d = d' + 1 := ⟨d - 1, by omega⟩
  have hd : 6 ≤ d := by omega
  show zq_wp sc (d + 1) 94 0 [some (.ref a0), some (.int a1), none] [] h _
  refine zq_wg 3 (pc' := 3) (lv' := [some (.ref a0), some (.int a1), none]) (st' := [.int (2 : Int32), .int (0 : Int32), .int a1]) (h' := h) rfl ?_
  obtain ⟨v2, h1, e3, hf⟩ := zo_c_s hf
  refine zr_cs zq_m35 [.int a1, .int (0 : Int32), .int (2 : Int32)] [] rfl rfl (by decide) rfl rfl rfl (Nat.le_of_ble_eq_true rfl) (Nat.le_of_ble_eq_true rfl) (zx_within_ok sc d (by omega) e3) ?_
  refine zq_wg 0 (pc' := 6) (lv' := [some (.ref a0), some (.int a1), none]) (st' := [.int v2]) (h' := h1) rfl ?_
  refine zr_if (v2 = 0) 9 12 (st' := []) rfl rfl (fun b4 => ?_) (fun b4 => ?_)
  · have hf := zo_t hf b4
    refine zq_wg 1 (pc' := 11) (lv' := [some (.ref a0), some (.int a1), none]) (st' := [.int (-2 : Int32)]) (h' := h1) rfl ?_
    exact zr_ri rfl rfl rfl hf
  · have hf := zo_f hf b4
    refine zq_wg 1 (pc' := 13) (lv' := [some (.ref a0), some (.int a1), none]) (st' := [.ref a0]) (h' := h1) rfl ?_
    obtain ⟨v5, e6, hf⟩ := zo_b_s hf
    refine zr_gR rfl rfl (by decide) rfl e6 ?_
    refine zq_wg 1 (pc' := 17) (lv' := [some (.ref a0), some (.int a1), none]) (st' := [.ref a0, .ref v5]) (h' := h1) rfl ?_
    obtain ⟨v7, e8, hf⟩ := zo_b_s hf
    refine zr_gR rfl rfl (by decide) rfl e8 ?_
    obtain ⟨e12, w10, h9, e11, hf⟩ := zo_v_s hf
    refine zr_cv zq_m10 [.ref v7] [] rfl rfl rfl rfl rfl (Nat.le_of_ble_eq_true rfl) (Nat.le_of_ble_eq_true rfl) e12 (zx_State_begin_ok sc d (by omega) e11) ?_
    refine zq_wg 0 (pc' := 23) (lv' := [some (.ref a0), some (.int a1), none]) (st' := []) (h' := h9) rfl ?_
    refine zq_wg 1 (pc' := 24) (lv' := [some (.ref a0), some (.int a1), none]) (st' := [.ref a0]) (h' := h9) rfl ?_
    obtain ⟨v13, e14, hf⟩ := zo_b_s hf
    refine zr_gR rfl rfl (by decide) rfl e14 ?_
    refine zq_wg 1 (pc' := 28) (lv' := [some (.ref a0), some (.int a1), none]) (st' := [.ref a0, .ref v13]) (h' := h9) rfl ?_
    obtain ⟨v15, e16, hf⟩ := zo_b_s hf
    refine zr_gR rfl rfl (by decide) rfl e16 ?_
    refine zq_wg 1 (pc' := 32) (lv' := [some (.ref a0), some (.int a1), none]) (st' := [.ref a0, .ref v15, .ref v13]) (h' := h9) rfl ?_
    obtain ⟨v17, e18, hf⟩ := zo_b_s hf
    refine zr_gR rfl rfl (by decide) rfl e18 ?_
    refine zq_wg 1 (pc' := 36) (lv' := [some (.ref a0), some (.int a1), none]) (st' := [.ref a0, .ref v17, .ref v15, .ref v13]) (h' := h9) rfl ?_
    obtain ⟨v19, e20, hf⟩ := zo_b_s hf
    refine zr_gR rfl rfl (by decide) rfl e20 ?_
    obtain ⟨e24, v22, h21, e23, hf⟩ := zo_v_s hf
    refine zr_cv zq_m95 [.ref v15, .ref v17, .ref v19] [] rfl rfl rfl rfl rfl (Nat.le_of_ble_eq_true rfl) (Nat.le_of_ble_eq_true rfl) e24 (zx_War_runOn_ok sc d (by omega) e23) ?_
    refine zq_wg 0 (pc' := 42) (lv' := [some (.ref a0), some (.int a1), none]) (st' := [.int v22]) (h' := h21) rfl ?_
    refine zq_wg 2 (pc' := 44) (lv' := [some (.ref a0), some (.int a1), some (.int v22)]) (st' := [.int a1]) (h' := h21) rfl ?_
    refine zr_if (a1 = 0) 47 49 (st' := []) rfl rfl (fun b25 => ?_) (fun b25 => ?_)
    · have hf := zo_t hf b25
      refine zq_wg 1 (pc' := 48) (lv' := [some (.ref a0), some (.int a1), some (.int v22)]) (st' := [.int v22]) (h' := h21) rfl ?_
      exact zr_ri rfl rfl rfl hf
    · have hf := zo_f hf b25
      refine zq_wg 2 (pc' := 51) (lv' := [some (.ref a0), some (.int a1), some (.int v22)]) (st' := [.int (1 : Int32), .int a1]) (h' := h21) rfl ?_
      refine zr_if (a1 = (1 : Int32)) 54 64 (st' := []) rfl rfl (fun b26 => ?_) (fun b26 => ?_)
      · have hf := zo_t hf b26
        refine zq_wg 1 (pc' := 55) (lv' := [some (.ref a0), some (.int a1), some (.int v22)]) (st' := [.ref a0]) (h' := h21) rfl ?_
        obtain ⟨v27, e28, hf⟩ := zo_b_s hf
        refine zr_gR rfl rfl (by decide) rfl e28 ?_
        obtain ⟨v29, e30, hf⟩ := zo_b_s hf
        refine zr_gI rfl rfl (by decide) rfl e30 ?_
        refine zq_wg 1 (pc' := 71) (lv' := [some (.ref a0), some (.int a1), some (.int v22)]) (st' := [.int v29]) (h' := h21) rfl ?_
        exact zr_ri rfl rfl rfl hf
      · have hf := zo_f hf b26
        refine zq_wg 1 (pc' := 65) (lv' := [some (.ref a0), some (.int a1), some (.int v22)]) (st' := [.ref a0]) (h' := h21) rfl ?_
        obtain ⟨v31, e32, hf⟩ := zo_b_s hf
        refine zr_gR rfl rfl (by decide) rfl e32 ?_
        obtain ⟨v33, e34, hf⟩ := zo_b_s hf
        refine zr_gI rfl rfl (by decide) rfl e34 ?_
        exact zr_ri rfl rfl rfl hf
set_option maxRecDepth 4000 in
def zx_first_l17 (sc : zX) : Nat → Nat → Int32 → Int32 → zH → Option (Int32 × zH)
  | 0, _, _, _, _ => none
  | n + 1, y11, y12, y13, h14 => zo_b (zo_gR h14 9 y11 11) (fun v15 => zo_b (zo_gI h14 0 v15 0) (fun v17 => if v17 ≤ y13 then (some ((-1 : Int32), h14)) else (zo_b (zo_gR h14 9 y11 1) (fun v20 => zo_b (zo_gR h14 4 v20 0) (fun v22 => zo_c (zx_at sc v22 y13 h14) (fun v25 h24 => zo_l (fun (x27 : Nat) (x28 : Int32) (x29 : Int32) (x30 : Int32) (h31 : zH) => zo_b (zo_gR h31 9 x27 11) (fun v32 => zo_b (zo_gR h31 0 v32 9) (fun v34 => zo_c (zx_at sc v34 x29 h31) (fun v37 h36 => zo_l (fun (x39 : Nat) (x40 : Int32) (x41 : Int32) (h42 : zH) => zx_first_l17 sc n x39 x40 (x41 + (1 : Int32)) h42 ) (fun j108_42 => if x30 = 0 then (j108_42 x27 x28 x29 h36) else (if v37 = (-1 : Int32) then (j108_42 x27 x28 x29 h36) else (if ((x28 >>> (v37 &&& 31)) &&& (1 : Int32)) = (1 : Int32) then (some (x29, h36)) else (zo_b (zo_gR h36 9 x27 1) (fun v46 => zo_b (zo_gR h36 4 v46 0) (fun v48 => zo_c (zx_at sc v48 v37 h36) (fun v51 h50 => if v51 = (-1 : Int32) then (some (x29, h50)) else (j108_42 x27 x28 x29 h50)))))))))))) (fun j56_31 => zo_l (fun (x54 : Nat) (x55 : Int32) (x56 : Int32) (h57 : zH) => j56_31 x54 x55 x56 (0 : Int32) h57) (fun j55_57 => if v25 = (-1 : Int32) then (j55_57 y11 y12 y13 h24) else (if ((y12 >>> (y13 &&& 31)) &&& (1 : Int32)) = 0 then (j56_31 y11 y12 y13 (1 : Int32) h24) else (j55_57 y11 y12 y13 h24))))))))))
set_option maxRecDepth 4000 in
def zx_first (sc : zX) (a0 : Nat) (h : zH) : Option (Int32 × zH) := zo_b (zo_gR h 9 a0 11) (fun v1 => zo_b (zo_gR h 9 a0 1) (fun v3 => zo_b (zo_gR h 4 v3 0) (fun v5 => zo_v h v1 0 (zx_Army_obeying sc v1 v5 h) (fun v8 h7 => zx_first_l17 sc zo_F a0 v8 (0 : Int32) h7 ))))
set_option maxRecDepth 4000 in
theorem zx_first_l17_ok (sc : zX) (d : Nat) (hd : 2 ≤ d) : ∀ (n : Nat) (y11 : Nat) (y12 : Int32) (y13 : Int32) (h14 : zH) (ro_ : Int32) (ho_ : zH),  zx_first_l17 sc n y11 y12 y13 h14  = some (ro_, ho_) → zq_wp sc (d + 1) 97 17 [some (.ref y11), some (.int y12), some (.int y13), none, none] [] h14 (some (.int ro_), ho_) := by
  intro n
  induction n with
  | zero => intro y11 y12 y13 h14 ro_ ho_ hf; cases hf
  | succ n ih =>
    intro y11 y12 y13 h14 ro_ ho_ hf
    refine zq_wg 2 (pc' := 19) (lv' := [some (.ref y11), some (.int y12), some (.int y13), none, none]) (st' := [.ref y11, .int y13]) (h' := h14) rfl ?_
    obtain ⟨v15, e16, hf⟩ := zo_b_s hf
    refine zr_gR rfl rfl (by decide) rfl e16 ?_
    obtain ⟨v17, e18, hf⟩ := zo_b_s hf
    refine zr_gI rfl rfl (by decide) rfl e18 ?_
    refine zr_if (v17 ≤ y13) 114 28 (st' := []) rfl rfl (fun b19 => ?_) (fun b19 => ?_)
    · have hf := zo_t hf b19
      refine zq_wg 1 (pc' := 115) (lv' := [some (.ref y11), some (.int y12), some (.int y13), none, none]) (st' := [.int (-1 : Int32)]) (h' := h14) rfl ?_
      exact zr_ri rfl rfl rfl hf
    · have hf := zo_f hf b19
      refine zq_wg 1 (pc' := 29) (lv' := [some (.ref y11), some (.int y12), some (.int y13), none, none]) (st' := [.ref y11]) (h' := h14) rfl ?_
      obtain ⟨v20, e21, hf⟩ := zo_b_s hf
      refine zr_gR rfl rfl (by decide) rfl e21 ?_
      obtain ⟨v22, e23, hf⟩ := zo_b_s hf
      refine zr_gR rfl rfl (by decide) rfl e23 ?_
      refine zq_wg 1 (pc' := 36) (lv' := [some (.ref y11), some (.int y12), some (.int y13), none, none]) (st' := [.int y13, .ref v22]) (h' := h14) rfl ?_
      obtain ⟨v25, h24, e26, hf⟩ := zo_c_s hf
      refine zr_cs zq_m12 [.ref v22, .int y13] [] rfl rfl (by decide) rfl rfl rfl (Nat.le_of_ble_eq_true rfl) (Nat.le_of_ble_eq_true rfl) (zx_at_ok sc d (by omega) e26) ?_
      refine zq_wg 0 (pc' := 39) (lv' := [some (.ref y11), some (.int y12), some (.int y13), none, none]) (st' := [.int v25]) (h' := h24) rfl ?_
      refine zq_wg 1 (pc' := 40) (lv' := [some (.ref y11), some (.int y12), some (.int y13), none, none]) (st' := [.int (-1 : Int32), .int v25]) (h' := h24) rfl ?_
      obtain ⟨j56_31, hjj56_31, hf⟩ := zo_lj hf
      have kj56_31 : ∀ (x27 : Nat) (x28 : Int32) (x29 : Int32) (x30 : Int32) (h31 : zH), j56_31 x27 x28 x29 x30 h31 = some (ro_, ho_) → zq_wp sc (d + 1) 97 56 [some (.ref x27), some (.int x28), some (.int x29), none, none] [.int x30] h31 (some (.int ro_), ho_) := by
        intro x27 x28 x29 x30 h31 hf
        rw [hjj56_31] at hf
        refine zq_wg 2 (pc' := 58) (lv' := [some (.ref x27), some (.int x28), some (.int x29), some (.int x30), none]) (st' := [.ref x27]) (h' := h31) rfl ?_
        obtain ⟨v32, e33, hf⟩ := zo_b_s hf
        refine zr_gR rfl rfl (by decide) rfl e33 ?_
        obtain ⟨v34, e35, hf⟩ := zo_b_s hf
        refine zr_gR rfl rfl (by decide) rfl e35 ?_
        refine zq_wg 1 (pc' := 65) (lv' := [some (.ref x27), some (.int x28), some (.int x29), some (.int x30), none]) (st' := [.int x29, .ref v34]) (h' := h31) rfl ?_
        obtain ⟨v37, h36, e38, hf⟩ := zo_c_s hf
        refine zr_cs zq_m12 [.ref v34, .int x29] [] rfl rfl (by decide) rfl rfl rfl (Nat.le_of_ble_eq_true rfl) (Nat.le_of_ble_eq_true rfl) (zx_at_ok sc d (by omega) e38) ?_
        refine zq_wg 0 (pc' := 68) (lv' := [some (.ref x27), some (.int x28), some (.int x29), some (.int x30), none]) (st' := [.int v37]) (h' := h36) rfl ?_
        refine zq_wg 2 (pc' := 71) (lv' := [some (.ref x27), some (.int x28), some (.int x29), some (.int x30), some (.int v37)]) (st' := [.int x30]) (h' := h36) rfl ?_
        obtain ⟨j108_42, hjj108_42, hf⟩ := zo_lj hf
        have kj108_42 : ∀ (x39 : Nat) (x40 : Int32) (x41 : Int32) (h42 : zH), j108_42 x39 x40 x41 h42 = some (ro_, ho_) → zq_wp sc (d + 1) 97 108 [some (.ref x39), some (.int x40), some (.int x41), none, none] [] h42 (some (.int ro_), ho_) := by
          intro x39 x40 x41 h42 hf
          rw [hjj108_42] at hf
          refine zq_wg 2 (pc' := 17) (lv' := [some (.ref x39), some (.int x40), some (.int (x41 + (1 : Int32))), none, none]) (st' := []) (h' := h42) rfl ?_
          exact ih x39 x40 (x41 + (1 : Int32)) h42 _ _ hf
        refine zr_if (x30 = 0) 108 74 (st' := []) rfl rfl (fun b43 => ?_) (fun b43 => ?_)
        · have hf := zo_t hf b43
          refine zq_fg [some (.ref x27), some (.int x28), some (.int x29), none, none] (zq_lvle_s (zq_lvle_s (zq_lvle_s (zq_lvle_n (zq_lvle_n zq_lvle_nil))))) ?_
          exact kj108_42 x27 x28 x29 h36 hf
        · have hf := zo_f hf b43
          refine zq_wg 2 (pc' := 77) (lv' := [some (.ref x27), some (.int x28), some (.int x29), some (.int x30), some (.int v37)]) (st' := [.int (-1 : Int32), .int v37]) (h' := h36) rfl ?_
          refine zr_if (v37 = (-1 : Int32)) 108 80 (st' := []) rfl rfl (fun b44 => ?_) (fun b44 => ?_)
          · have hf := zo_t hf b44
            refine zq_fg [some (.ref x27), some (.int x28), some (.int x29), none, none] (zq_lvle_s (zq_lvle_s (zq_lvle_s (zq_lvle_n (zq_lvle_n zq_lvle_nil))))) ?_
            exact kj108_42 x27 x28 x29 h36 hf
          · have hf := zo_f hf b44
            refine zq_wg 6 (pc' := 87) (lv' := [some (.ref x27), some (.int x28), some (.int x29), some (.int x30), some (.int v37)]) (st' := [.int (1 : Int32), .int ((x28 >>> (v37 &&& 31)) &&& (1 : Int32))]) (h' := h36) rfl ?_
            refine zr_if (((x28 >>> (v37 &&& 31)) &&& (1 : Int32)) = (1 : Int32)) 106 90 (st' := []) rfl rfl (fun b45 => ?_) (fun b45 => ?_)
            · have hf := zo_t hf b45
              refine zq_wg 1 (pc' := 107) (lv' := [some (.ref x27), some (.int x28), some (.int x29), some (.int x30), some (.int v37)]) (st' := [.int x29]) (h' := h36) rfl ?_
              exact zr_ri rfl rfl rfl hf
            · have hf := zo_f hf b45
              refine zq_wg 1 (pc' := 91) (lv' := [some (.ref x27), some (.int x28), some (.int x29), some (.int x30), some (.int v37)]) (st' := [.ref x27]) (h' := h36) rfl ?_
              obtain ⟨v46, e47, hf⟩ := zo_b_s hf
              refine zr_gR rfl rfl (by decide) rfl e47 ?_
              obtain ⟨v48, e49, hf⟩ := zo_b_s hf
              refine zr_gR rfl rfl (by decide) rfl e49 ?_
              refine zq_wg 1 (pc' := 99) (lv' := [some (.ref x27), some (.int x28), some (.int x29), some (.int x30), some (.int v37)]) (st' := [.int v37, .ref v48]) (h' := h36) rfl ?_
              obtain ⟨v51, h50, e52, hf⟩ := zo_c_s hf
              refine zr_cs zq_m12 [.ref v48, .int v37] [] rfl rfl (by decide) rfl rfl rfl (Nat.le_of_ble_eq_true rfl) (Nat.le_of_ble_eq_true rfl) (zx_at_ok sc d (by omega) e52) ?_
              refine zq_wg 0 (pc' := 102) (lv' := [some (.ref x27), some (.int x28), some (.int x29), some (.int x30), some (.int v37)]) (st' := [.int v51]) (h' := h50) rfl ?_
              refine zq_wg 1 (pc' := 103) (lv' := [some (.ref x27), some (.int x28), some (.int x29), some (.int x30), some (.int v37)]) (st' := [.int (-1 : Int32), .int v51]) (h' := h50) rfl ?_
              refine zr_if (v51 = (-1 : Int32)) 106 108 (st' := []) rfl rfl (fun b53 => ?_) (fun b53 => ?_)
              · have hf := zo_t hf b53
                refine zq_wg 1 (pc' := 107) (lv' := [some (.ref x27), some (.int x28), some (.int x29), some (.int x30), some (.int v37)]) (st' := [.int x29]) (h' := h50) rfl ?_
                exact zr_ri rfl rfl rfl hf
              · have hf := zo_f hf b53
                refine zq_fg [some (.ref x27), some (.int x28), some (.int x29), none, none] (zq_lvle_s (zq_lvle_s (zq_lvle_s (zq_lvle_n (zq_lvle_n zq_lvle_nil))))) ?_
                exact kj108_42 x27 x28 x29 h50 hf
      obtain ⟨j55_57, hjj55_57, hf⟩ := zo_lj hf
      have kj55_57 : ∀ (x54 : Nat) (x55 : Int32) (x56 : Int32) (h57 : zH), j55_57 x54 x55 x56 h57 = some (ro_, ho_) → zq_wp sc (d + 1) 97 55 [some (.ref x54), some (.int x55), some (.int x56), none, none] [] h57 (some (.int ro_), ho_) := by
        intro x54 x55 x56 h57 hf
        rw [hjj55_57] at hf
        refine zq_wg 1 (pc' := 56) (lv' := [some (.ref x54), some (.int x55), some (.int x56), none, none]) (st' := [.int (0 : Int32)]) (h' := h57) rfl ?_
        exact kj56_31 x54 x55 x56 (0 : Int32) h57 hf
      refine zr_if (v25 = (-1 : Int32)) 55 43 (st' := []) rfl rfl (fun b58 => ?_) (fun b58 => ?_)
      · have hf := zo_t hf b58
        exact kj55_57 y11 y12 y13 h24 hf
      · have hf := zo_f hf b58
        refine zq_wg 5 (pc' := 48) (lv' := [some (.ref y11), some (.int y12), some (.int y13), none, none]) (st' := [.int ((y12 >>> (y13 &&& 31)) &&& (1 : Int32))]) (h' := h24) rfl ?_
        refine zr_if (((y12 >>> (y13 &&& 31)) &&& (1 : Int32)) = 0) 51 55 (st' := []) rfl rfl (fun b59 => ?_) (fun b59 => ?_)
        · have hf := zo_t hf b59
          refine zq_wg 2 (pc' := 56) (lv' := [some (.ref y11), some (.int y12), some (.int y13), none, none]) (st' := [.int (1 : Int32)]) (h' := h24) rfl ?_
          exact kj56_31 y11 y12 y13 (1 : Int32) h24 hf
        · have hf := zo_f hf b59
          exact kj55_57 y11 y12 y13 h24 hf
set_option maxRecDepth 4000 in
theorem zx_first_ok (sc : zX) (d : Nat) (hd : 3 ≤ d) {a0 : Nat} {h : zH} {ro_ : Int32} {ho_ : zH} (hf : zx_first sc a0 h = some (ro_, ho_)) : zq_wm sc d 97 [.ref a0] h (some (.int ro_), ho_) := by
  unfold zx_first at hf
  obtain ⟨d, rfl⟩ : ∃ d', d = d' + 1 := ⟨d - 1, by omega⟩
  have hd : 2 ≤ d := by omega
  show zq_wp sc (d + 1) 97 0 [some (.ref a0), none, none, none, none] [] h _
  refine zq_wg 1 (pc' := 1) (lv' := [some (.ref a0), none, none, none, none]) (st' := [.ref a0]) (h' := h) rfl ?_
  obtain ⟨v1, e2, hf⟩ := zo_b_s hf
  refine zr_gR rfl rfl (by decide) rfl e2 ?_
  refine zq_wg 1 (pc' := 5) (lv' := [some (.ref a0), none, none, none, none]) (st' := [.ref a0, .ref v1]) (h' := h) rfl ?_
  obtain ⟨v3, e4, hf⟩ := zo_b_s hf
  refine zr_gR rfl rfl (by decide) rfl e4 ?_
  obtain ⟨v5, e6, hf⟩ := zo_b_s hf
  refine zr_gR rfl rfl (by decide) rfl e6 ?_
  obtain ⟨e10, v8, h7, e9, hf⟩ := zo_v_s hf
  refine zr_cv zq_m67 [.ref v5] [] rfl rfl rfl rfl rfl (Nat.le_of_ble_eq_true rfl) (Nat.le_of_ble_eq_true rfl) e10 (zx_Army_obeying_ok sc d (by omega) e9) ?_
  refine zq_wg 0 (pc' := 14) (lv' := [some (.ref a0), none, none, none, none]) (st' := [.int v8]) (h' := h7) rfl ?_
  refine zq_wg 3 (pc' := 17) (lv' := [some (.ref a0), some (.int v8), some (.int (0 : Int32)), none, none]) (st' := []) (h' := h7) rfl ?_
  refine zx_first_l17_ok sc d hd zo_F a0 v8 (0 : Int32) h7 _ _ hf
set_option maxRecDepth 4000 in
def zx_Ways_settle_l78 (sc : zX) : Nat → Nat → Nat → Int32 → Int32 → Int32 → zH → (Nat → Int32 → zH → Option (Unit × zH)) → Option (Unit × zH)
  | 0, _, _, _, _, _, _, _ => none
  | n + 1, y21, y22, y23, y24, y25, h26, k109 => if (3 : Int32) ≤ y25 then (k109 y21 y24 h26) else (zo_b (zo_gI h26 0 y22 4) (fun v28 => zo_v h26 y22 0 (zx_Army_move sc y22 y23 v28 y25 h26) (fun v31 h30 => zx_Ways_settle_l78 sc n y21 y22 y23 (((y24 * (7 : Int32)) + v31) + (3 : Int32)) (y25 + (1 : Int32)) h30 k109)))
set_option maxRecDepth 4000 in
def zx_Ways_settle_l45 (sc : zX) : Nat → Nat → Nat → Int32 → Int32 → zH → (Nat → Nat → Int32 → zH → Option (Unit × zH)) → Option (Unit × zH)
  | 0, _, _, _, _, _, _ => none
  | n + 1, y70, y71, y72, y73, h74, k73 => if (6 : Int32) ≤ y73 then (k73 y70 y71 y72 h74) else (zo_b (zo_gR h74 8 y70 3) (fun v76 => zo_b (zo_gR h74 8 y70 7) (fun v78 => zo_c (zx_at sc v78 y73 h74) (fun v81 h80 => zo_c (zx_put sc v76 y73 v81 h80) (fun w84 h83 => zx_Ways_settle_l45 sc n y70 y71 y72 (y73 + (1 : Int32)) h83 k73)))))
set_option maxRecDepth 4000 in
def zx_Ways_settle (sc : zX) (a0 : Nat) (a1 : Nat) (h : zH) : Option (Unit × zH) := zo_b (zo_gR h 8 a0 7) (fun v1 => zo_v h a1 0 (zx_Army_strength sc a1 v1 h) (fun v4 h3 => zo_b (zo_gI h3 8 a0 5) (fun v7 => zo_b (zo_pI h3 8 a0 5 (v7 + (1 : Int32))) (fun h9 => zo_b (zo_gL h9 8 a0 2) (fun v11 => zo_b (zo_pL h9 8 a0 2 (v11 + v4.toInt64)) (fun h13 => zo_b (zo_gI h13 8 a0 1) (fun v15 => zo_l (fun (x17 : Nat) (x18 : Nat) (x19 : Int32) (h20 : zH) => zx_Ways_settle_l78 sc zo_F x17 x18 x19 (0 : Int32) (0 : Int32) h20 (fun (x34 : Nat) (x35 : Int32) (h36 : zH) => zo_b (zo_gR h36 8 x34 9) (fun v37 => zo_c (zx_at sc v37 x35 h36) (fun v40 h39 => zo_l (fun (x42 : Nat) (x43 : Int32) (h44 : zH) => zo_b (zo_gR h44 8 x42 9) (fun v45 => zo_b (zo_gR h44 8 x42 9) (fun v47 => zo_c (zx_at sc v47 x43 h44) (fun v50 h49 => zo_c (zx_put sc v45 x43 (v50 + (1 : Int32)) h49) (fun w53 h52 => some ((), h52)))))) (fun j142_44 => if v40 = 0 then (zo_b (zo_gR h39 8 x34 8) (fun v56 => zo_b (zo_gI h39 8 x34 6) (fun v58 => zo_c (zx_put sc v56 v58 x35 h39) (fun w61 h60 => zo_b (zo_gI h60 8 x34 6) (fun v63 => zo_b (zo_pI h60 8 x34 6 (v63 + (1 : Int32))) (fun h65 => j142_44 x34 x35 h65)))))) else (j142_44 x34 x35 h39)))))) (fun j73_20 => if v4 ≤ v15 then (j73_20 a0 a1 v4 h13) else (zo_b (zo_pI h13 8 a0 1 v4) (fun h68 => zx_Ways_settle_l45 sc zo_F a0 a1 v4 (0 : Int32) h68 (fun (x86 : Nat) (x87 : Nat) (x88 : Int32) (h89 : zH) => j73_20 x86 x87 x88 h89)))))))))))
set_option maxRecDepth 4000 in
theorem zx_Ways_settle_l78_ok (sc : zX) (d : Nat) (hd : 3 ≤ d) : ∀ (n : Nat) (y21 : Nat) (y22 : Nat) (y23 : Int32) (y24 : Int32) (y25 : Int32) (h26 : zH) (k109 : Nat → Int32 → zH → Option (Unit × zH)) (ro_ : Unit) (ho_ : zH), (∀ (z0 : Nat) (z1 : Int32) (hz : zH), k109 z0 z1 hz = some (ro_, ho_) → zq_wp sc (d + 1) 101 109 [some (.ref z0), none, none, some (.int z1), none] [] hz (none, ho_)) → zx_Ways_settle_l78 sc n y21 y22 y23 y24 y25 h26 k109 = some (ro_, ho_) → zq_wp sc (d + 1) 101 78 [some (.ref y21), some (.ref y22), some (.int y23), some (.int y24), some (.int y25)] [] h26 (none, ho_) := by
  intro n
  induction n with
  | zero => intro y21 y22 y23 y24 y25 h26 k109 ro_ ho_ hk109 hf; cases hf
  | succ n ih =>
    intro y21 y22 y23 y24 y25 h26 k109 ro_ ho_ hk109 hf
    refine zq_wg 2 (pc' := 81) (lv' := [some (.ref y21), some (.ref y22), some (.int y23), some (.int y24), some (.int y25)]) (st' := [.int (3 : Int32), .int y25]) (h' := h26) rfl ?_
    refine zr_if ((3 : Int32) ≤ y25) 109 84 (st' := []) rfl rfl (fun b27 => ?_) (fun b27 => ?_)
    · have hf := zo_t hf b27
      refine zq_fg [some (.ref y21), none, none, some (.int y24), none] (zq_lvle_s (zq_lvle_n (zq_lvle_n (zq_lvle_s (zq_lvle_n zq_lvle_nil))))) ?_
      exact hk109 y21 y24 h26 hf
    · have hf := zo_f hf b27
      refine zq_wg 6 (pc' := 91) (lv' := [some (.ref y21), some (.ref y22), some (.int y23), some (.int y24), some (.int y25)]) (st' := [.ref y22, .int y23, .ref y22, .int (y24 * (7 : Int32))]) (h' := h26) rfl ?_
      obtain ⟨v28, e29, hf⟩ := zo_b_s hf
      refine zr_gI rfl rfl (by decide) rfl e29 ?_
      refine zq_wg 1 (pc' := 96) (lv' := [some (.ref y21), some (.ref y22), some (.int y23), some (.int y24), some (.int y25)]) (st' := [.int y25, .int v28, .int y23, .ref y22, .int (y24 * (7 : Int32))]) (h' := h26) rfl ?_
      obtain ⟨e33, v31, h30, e32, hf⟩ := zo_v_s hf
      refine zr_cv zq_m90 [.int y23, .int v28, .int y25] [.int (y24 * (7 : Int32))] rfl rfl rfl rfl rfl (Nat.le_of_ble_eq_true rfl) (Nat.le_of_ble_eq_true rfl) e33 (zx_Army_move_ok sc d (by omega) e32) ?_
      refine zq_wg 0 (pc' := 99) (lv' := [some (.ref y21), some (.ref y22), some (.int y23), some (.int y24), some (.int y25)]) (st' := [.int v31, .int (y24 * (7 : Int32))]) (h' := h30) rfl ?_
      refine zq_wg 6 (pc' := 78) (lv' := [some (.ref y21), some (.ref y22), some (.int y23), some (.int (((y24 * (7 : Int32)) + v31) + (3 : Int32))), some (.int (y25 + (1 : Int32)))]) (st' := []) (h' := h30) rfl ?_
      exact ih y21 y22 y23 (((y24 * (7 : Int32)) + v31) + (3 : Int32)) (y25 + (1 : Int32)) h30 _ _ _ hk109 hf
set_option maxRecDepth 4000 in
theorem zx_Ways_settle_l45_ok (sc : zX) (d : Nat) (hd : 3 ≤ d) : ∀ (n : Nat) (y70 : Nat) (y71 : Nat) (y72 : Int32) (y73 : Int32) (h74 : zH) (k73 : Nat → Nat → Int32 → zH → Option (Unit × zH)) (ro_ : Unit) (ho_ : zH), (∀ (z0 : Nat) (z1 : Nat) (z2 : Int32) (hz : zH), k73 z0 z1 z2 hz = some (ro_, ho_) → zq_wp sc (d + 1) 101 73 [some (.ref z0), some (.ref z1), some (.int z2), none, none] [] hz (none, ho_)) → zx_Ways_settle_l45 sc n y70 y71 y72 y73 h74 k73 = some (ro_, ho_) → zq_wp sc (d + 1) 101 45 [some (.ref y70), some (.ref y71), some (.int y72), some (.int y73), none] [] h74 (none, ho_) := by
  intro n
  induction n with
  | zero => intro y70 y71 y72 y73 h74 k73 ro_ ho_ hk73 hf; cases hf
  | succ n ih =>
    intro y70 y71 y72 y73 h74 k73 ro_ ho_ hk73 hf
    refine zq_wg 2 (pc' := 48) (lv' := [some (.ref y70), some (.ref y71), some (.int y72), some (.int y73), none]) (st' := [.int (6 : Int32), .int y73]) (h' := h74) rfl ?_
    refine zr_if ((6 : Int32) ≤ y73) 73 51 (st' := []) rfl rfl (fun b75 => ?_) (fun b75 => ?_)
    · have hf := zo_t hf b75
      refine zq_fg [some (.ref y70), some (.ref y71), some (.int y72), none, none] (zq_lvle_s (zq_lvle_s (zq_lvle_s (zq_lvle_n (zq_lvle_s zq_lvle_nil))))) ?_
      exact hk73 y70 y71 y72 h74 hf
    · have hf := zo_f hf b75
      refine zq_wg 1 (pc' := 52) (lv' := [some (.ref y70), some (.ref y71), some (.int y72), some (.int y73), none]) (st' := [.ref y70]) (h' := h74) rfl ?_
      obtain ⟨v76, e77, hf⟩ := zo_b_s hf
      refine zr_gR rfl rfl (by decide) rfl e77 ?_
      refine zq_wg 2 (pc' := 57) (lv' := [some (.ref y70), some (.ref y71), some (.int y72), some (.int y73), none]) (st' := [.ref y70, .int y73, .ref v76]) (h' := h74) rfl ?_
      obtain ⟨v78, e79, hf⟩ := zo_b_s hf
      refine zr_gR rfl rfl (by decide) rfl e79 ?_
      refine zq_wg 1 (pc' := 61) (lv' := [some (.ref y70), some (.ref y71), some (.int y72), some (.int y73), none]) (st' := [.int y73, .ref v78, .int y73, .ref v76]) (h' := h74) rfl ?_
      obtain ⟨v81, h80, e82, hf⟩ := zo_c_s hf
      refine zr_cs zq_m12 [.ref v78, .int y73] [.int y73, .ref v76] rfl rfl (by decide) rfl rfl rfl (Nat.le_of_ble_eq_true rfl) (Nat.le_of_ble_eq_true rfl) (zx_at_ok sc d (by omega) e82) ?_
      refine zq_wg 0 (pc' := 64) (lv' := [some (.ref y70), some (.ref y71), some (.int y72), some (.int y73), none]) (st' := [.int v81, .int y73, .ref v76]) (h' := h80) rfl ?_
      obtain ⟨w84, h83, e85, hf⟩ := zo_c_s hf
      refine zr_cs zq_m11 [.ref v76, .int y73, .int v81] [] rfl rfl (by decide) rfl rfl rfl (Nat.le_of_ble_eq_true rfl) (Nat.le_of_ble_eq_true rfl) (zx_put_ok sc d (by omega) e85) ?_
      refine zq_wg 0 (pc' := 67) (lv' := [some (.ref y70), some (.ref y71), some (.int y72), some (.int y73), none]) (st' := []) (h' := h83) rfl ?_
      refine zq_wg 2 (pc' := 45) (lv' := [some (.ref y70), some (.ref y71), some (.int y72), some (.int (y73 + (1 : Int32))), none]) (st' := []) (h' := h83) rfl ?_
      exact ih y70 y71 y72 (y73 + (1 : Int32)) h83 _ _ _ hk73 hf
set_option maxRecDepth 4000 in
theorem zx_Ways_settle_ok (sc : zX) (d : Nat) (hd : 4 ≤ d) {a0 : Nat} {a1 : Nat} {h : zH} {ro_ : Unit} {ho_ : zH} (hf : zx_Ways_settle sc a0 a1 h = some (ro_, ho_)) : zq_wm sc d 101 [.ref a0, .ref a1] h (none, ho_) := by
  unfold zx_Ways_settle at hf
  obtain ⟨d, rfl⟩ : ∃ d', d = d' + 1 := ⟨d - 1, by omega⟩
  have hd : 3 ≤ d := by omega
  show zq_wp sc (d + 1) 101 0 [some (.ref a0), some (.ref a1), none, none, none] [] h _
  refine zq_wg 2 (pc' := 2) (lv' := [some (.ref a0), some (.ref a1), none, none, none]) (st' := [.ref a0, .ref a1]) (h' := h) rfl ?_
  obtain ⟨v1, e2, hf⟩ := zo_b_s hf
  refine zr_gR rfl rfl (by decide) rfl e2 ?_
  obtain ⟨e6, v4, h3, e5, hf⟩ := zo_v_s hf
  refine zr_cv zq_m74 [.ref v1] [] rfl rfl rfl rfl rfl (Nat.le_of_ble_eq_true rfl) (Nat.le_of_ble_eq_true rfl) e6 (zx_Army_strength_ok sc d (by omega) e5) ?_
  refine zq_wg 0 (pc' := 8) (lv' := [some (.ref a0), some (.ref a1), none, none, none]) (st' := [.int v4]) (h' := h3) rfl ?_
  refine zq_wg 3 (pc' := 11) (lv' := [some (.ref a0), some (.ref a1), some (.int v4), none, none]) (st' := [.ref a0, .ref a0]) (h' := h3) rfl ?_
  obtain ⟨v7, e8, hf⟩ := zo_b_s hf
  refine zr_gI rfl rfl (by decide) rfl e8 ?_
  refine zq_wg 2 (pc' := 16) (lv' := [some (.ref a0), some (.ref a1), some (.int v4), none, none]) (st' := [.int (v7 + (1 : Int32)), .ref a0]) (h' := h3) rfl ?_
  obtain ⟨h9, e10, hf⟩ := zo_b_s hf
  refine zr_pI rfl rfl (by decide) rfl rfl e10 ?_
  refine zq_wg 2 (pc' := 21) (lv' := [some (.ref a0), some (.ref a1), some (.int v4), none, none]) (st' := [.ref a0, .ref a0]) (h' := h9) rfl ?_
  obtain ⟨v11, e12, hf⟩ := zo_b_s hf
  refine zr_gL rfl rfl (by decide) rfl e12 ?_
  refine zq_wg 3 (pc' := 27) (lv' := [some (.ref a0), some (.ref a1), some (.int v4), none, none]) (st' := [.long (v11 + v4.toInt64), .ref a0]) (h' := h9) rfl ?_
  obtain ⟨h13, e14, hf⟩ := zo_b_s hf
  refine zr_pL rfl rfl (by decide) rfl rfl e14 ?_
  refine zq_wg 2 (pc' := 32) (lv' := [some (.ref a0), some (.ref a1), some (.int v4), none, none]) (st' := [.ref a0, .int v4]) (h' := h13) rfl ?_
  obtain ⟨v15, e16, hf⟩ := zo_b_s hf
  refine zr_gI rfl rfl (by decide) rfl e16 ?_
  obtain ⟨j73_20, hjj73_20, hf⟩ := zo_lj hf
  have kj73_20 : ∀ (x17 : Nat) (x18 : Nat) (x19 : Int32) (h20 : zH), j73_20 x17 x18 x19 h20 = some (ro_, ho_) → zq_wp sc (d + 1) 101 73 [some (.ref x17), some (.ref x18), some (.int x19), none, none] [] h20 (none, ho_) := by
    intro x17 x18 x19 h20 hf
    rw [hjj73_20] at hf
    refine zq_wg 4 (pc' := 78) (lv' := [some (.ref x17), some (.ref x18), some (.int x19), some (.int (0 : Int32)), some (.int (0 : Int32))]) (st' := []) (h' := h20) rfl ?_
    refine zx_Ways_settle_l78_ok sc d hd zo_F x17 x18 x19 (0 : Int32) (0 : Int32) h20 _ _ _ ?_ hf
    · intro x34 x35 h36 hf
      refine zq_wg 1 (pc' := 110) (lv' := [some (.ref x34), none, none, some (.int x35), none]) (st' := [.ref x34]) (h' := h36) rfl ?_
      obtain ⟨v37, e38, hf⟩ := zo_b_s hf
      refine zr_gR rfl rfl (by decide) rfl e38 ?_
      refine zq_wg 1 (pc' := 114) (lv' := [some (.ref x34), none, none, some (.int x35), none]) (st' := [.int x35, .ref v37]) (h' := h36) rfl ?_
      obtain ⟨v40, h39, e41, hf⟩ := zo_c_s hf
      refine zr_cs zq_m12 [.ref v37, .int x35] [] rfl rfl (by decide) rfl rfl rfl (Nat.le_of_ble_eq_true rfl) (Nat.le_of_ble_eq_true rfl) (zx_at_ok sc d (by omega) e41) ?_
      refine zq_wg 0 (pc' := 117) (lv' := [some (.ref x34), none, none, some (.int x35), none]) (st' := [.int v40]) (h' := h39) rfl ?_
      obtain ⟨j142_44, hjj142_44, hf⟩ := zo_lj hf
      have kj142_44 : ∀ (x42 : Nat) (x43 : Int32) (h44 : zH), j142_44 x42 x43 h44 = some (ro_, ho_) → zq_wp sc (d + 1) 101 142 [some (.ref x42), none, none, some (.int x43), none] [] h44 (none, ho_) := by
        intro x42 x43 h44 hf
        rw [hjj142_44] at hf
        refine zq_wg 1 (pc' := 143) (lv' := [some (.ref x42), none, none, some (.int x43), none]) (st' := [.ref x42]) (h' := h44) rfl ?_
        obtain ⟨v45, e46, hf⟩ := zo_b_s hf
        refine zr_gR rfl rfl (by decide) rfl e46 ?_
        refine zq_wg 2 (pc' := 148) (lv' := [some (.ref x42), none, none, some (.int x43), none]) (st' := [.ref x42, .int x43, .ref v45]) (h' := h44) rfl ?_
        obtain ⟨v47, e48, hf⟩ := zo_b_s hf
        refine zr_gR rfl rfl (by decide) rfl e48 ?_
        refine zq_wg 1 (pc' := 152) (lv' := [some (.ref x42), none, none, some (.int x43), none]) (st' := [.int x43, .ref v47, .int x43, .ref v45]) (h' := h44) rfl ?_
        obtain ⟨v50, h49, e51, hf⟩ := zo_c_s hf
        refine zr_cs zq_m12 [.ref v47, .int x43] [.int x43, .ref v45] rfl rfl (by decide) rfl rfl rfl (Nat.le_of_ble_eq_true rfl) (Nat.le_of_ble_eq_true rfl) (zx_at_ok sc d (by omega) e51) ?_
        refine zq_wg 0 (pc' := 155) (lv' := [some (.ref x42), none, none, some (.int x43), none]) (st' := [.int v50, .int x43, .ref v45]) (h' := h49) rfl ?_
        refine zq_wg 2 (pc' := 157) (lv' := [some (.ref x42), none, none, some (.int x43), none]) (st' := [.int (v50 + (1 : Int32)), .int x43, .ref v45]) (h' := h49) rfl ?_
        obtain ⟨w53, h52, e54, hf⟩ := zo_c_s hf
        refine zr_cs zq_m11 [.ref v45, .int x43, .int (v50 + (1 : Int32))] [] rfl rfl (by decide) rfl rfl rfl (Nat.le_of_ble_eq_true rfl) (Nat.le_of_ble_eq_true rfl) (zx_put_ok sc d (by omega) e54) ?_
        refine zq_wg 0 (pc' := 160) (lv' := [some (.ref x42), none, none, some (.int x43), none]) (st' := []) (h' := h52) rfl ?_
        exact zr_rv rfl rfl hf
      refine zr_if (v40 = 0) 120 142 (st' := []) rfl rfl (fun b55 => ?_) (fun b55 => ?_)
      · have hf := zo_t hf b55
        refine zq_wg 1 (pc' := 121) (lv' := [some (.ref x34), none, none, some (.int x35), none]) (st' := [.ref x34]) (h' := h39) rfl ?_
        obtain ⟨v56, e57, hf⟩ := zo_b_s hf
        refine zr_gR rfl rfl (by decide) rfl e57 ?_
        refine zq_wg 1 (pc' := 125) (lv' := [some (.ref x34), none, none, some (.int x35), none]) (st' := [.ref x34, .ref v56]) (h' := h39) rfl ?_
        obtain ⟨v58, e59, hf⟩ := zo_b_s hf
        refine zr_gI rfl rfl (by decide) rfl e59 ?_
        refine zq_wg 1 (pc' := 129) (lv' := [some (.ref x34), none, none, some (.int x35), none]) (st' := [.int x35, .int v58, .ref v56]) (h' := h39) rfl ?_
        obtain ⟨w61, h60, e62, hf⟩ := zo_c_s hf
        refine zr_cs zq_m11 [.ref v56, .int v58, .int x35] [] rfl rfl (by decide) rfl rfl rfl (Nat.le_of_ble_eq_true rfl) (Nat.le_of_ble_eq_true rfl) (zx_put_ok sc d (by omega) e62) ?_
        refine zq_wg 0 (pc' := 132) (lv' := [some (.ref x34), none, none, some (.int x35), none]) (st' := []) (h' := h60) rfl ?_
        refine zq_wg 2 (pc' := 134) (lv' := [some (.ref x34), none, none, some (.int x35), none]) (st' := [.ref x34, .ref x34]) (h' := h60) rfl ?_
        obtain ⟨v63, e64, hf⟩ := zo_b_s hf
        refine zr_gI rfl rfl (by decide) rfl e64 ?_
        refine zq_wg 2 (pc' := 139) (lv' := [some (.ref x34), none, none, some (.int x35), none]) (st' := [.int (v63 + (1 : Int32)), .ref x34]) (h' := h60) rfl ?_
        obtain ⟨h65, e66, hf⟩ := zo_b_s hf
        refine zr_pI rfl rfl (by decide) rfl rfl e66 ?_
        exact kj142_44 x34 x35 h65 hf
      · have hf := zo_f hf b55
        exact kj142_44 x34 x35 h39 hf
  refine zr_if (v4 ≤ v15) 73 38 (st' := []) rfl rfl (fun b67 => ?_) (fun b67 => ?_)
  · have hf := zo_t hf b67
    exact kj73_20 a0 a1 v4 h13 hf
  · have hf := zo_f hf b67
    refine zq_wg 2 (pc' := 40) (lv' := [some (.ref a0), some (.ref a1), some (.int v4), none, none]) (st' := [.int v4, .ref a0]) (h' := h13) rfl ?_
    obtain ⟨h68, e69, hf⟩ := zo_b_s hf
    refine zr_pI rfl rfl (by decide) rfl rfl e69 ?_
    refine zq_wg 2 (pc' := 45) (lv' := [some (.ref a0), some (.ref a1), some (.int v4), some (.int (0 : Int32)), none]) (st' := []) (h' := h68) rfl ?_
    refine zx_Ways_settle_l45_ok sc d hd zo_F a0 a1 v4 (0 : Int32) h68 _ _ _ ?_ hf
    · intro x86 x87 x88 h89 hf
      exact kj73_20 x86 x87 x88 h89 hf
set_option maxRecDepth 4000 in
def zx_Ways_place_l23 (sc : zX) (rec : Nat → Nat → Int32 → Int32 → Int32 → zH → Option (Unit × zH)) : Nat → Nat → Nat → Int32 → Int32 → Int32 → Int32 → zH → (Nat → Nat → Int32 → Int32 → Int32 → zH → Option (Unit × zH)) → Option (Unit × zH)
  | 0, _, _, _, _, _, _, _, _ => none
  | n + 1, y12, y13, y14, y15, y16, y17, h18, k73 => zo_b (zo_gI h18 0 y13 1) (fun v19 => if v19 ≤ y17 then (k73 y12 y13 y14 y15 y16 h18) else (zo_l (fun (x22 : Nat) (x23 : Nat) (x24 : Int32) (x25 : Int32) (x26 : Int32) (x27 : Int32) (h28 : zH) => zx_Ways_place_l23 sc rec n x22 x23 x24 x25 x26 (x27 + (1 : Int32)) h28 k73) (fun j67_28 => if ((y15 >>> (y17 &&& 31)) &&& (1 : Int32)) = 0 then (zo_b (zo_gR h18 8 y12 7) (fun v30 => zo_c (zx_put sc v30 y14 y17 h18) (fun w33 h32 => zo_v h32 y12 8 (rec y12 y13 (y14 + (1 : Int32)) (y15 ||| ((1 : Int32) <<< (y17 &&& 31))) y16 h32) (fun w36 h35 => j67_28 y12 y13 y14 y15 y16 y17 h35)))) else (j67_28 y12 y13 y14 y15 y16 y17 h18))))
set_option maxRecDepth 4000 in
def zx_Ways_place_b (sc : zX) (rec : Nat → Nat → Int32 → Int32 → Int32 → zH → Option (Unit × zH)) (a0 : Nat) (a1 : Nat) (a2 : Int32) (a3 : Int32) (a4 : Int32) (h : zH) : Option (Unit × zH) := zo_b (zo_gI h 0 a1 0) (fun v1 => zo_l (fun (x3 : Nat) (x4 : Nat) (h5 : zH) => zo_v h5 x3 8 (zx_Ways_settle sc x3 x4 h5) (fun w7 h6 => some ((), h6))) (fun j14_5 => if v1 ≤ a2 then (j14_5 a0 a1 h) else (if a2 < (6 : Int32) then (zx_Ways_place_l23 sc rec zo_F a0 a1 a2 a3 a4 (0 : Int32) h (fun (x39 : Nat) (x40 : Nat) (x41 : Int32) (x42 : Int32) (x43 : Int32) (h44 : zH) => if x43 ≤ 0 then (some ((), h44)) else (zo_b (zo_gR h44 8 x39 7) (fun v46 => zo_c (zx_put sc v46 x41 (-1 : Int32) h44) (fun w49 h48 => zo_v h48 x39 8 (rec x39 x40 (x41 + (1 : Int32)) x42 (x43 - (1 : Int32)) h48) (fun w52 h51 => some ((), h51))))))) else (j14_5 a0 a1 h))))
set_option maxRecDepth 4000 in
theorem zx_Ways_place_l23_ok (sc : zX) (d : Nat) (hd : 4 ≤ d) (rec : Nat → Nat → Int32 → Int32 → Int32 → zH → Option (Unit × zH)) (hrec : ∀ (z0 : Nat) (z1 : Nat) (z2 : Int32) (z3 : Int32) (z4 : Int32) (hz : zH) (rz : Unit) (hy : zH), rec z0 z1 z2 z3 z4 hz = some (rz, hy) → zq_wm sc d 100 [.ref z0, .ref z1, .int z2, .int z3, .int z4] hz (none, hy)) : ∀ (n : Nat) (y12 : Nat) (y13 : Nat) (y14 : Int32) (y15 : Int32) (y16 : Int32) (y17 : Int32) (h18 : zH) (k73 : Nat → Nat → Int32 → Int32 → Int32 → zH → Option (Unit × zH)) (ro_ : Unit) (ho_ : zH), (∀ (z0 : Nat) (z1 : Nat) (z2 : Int32) (z3 : Int32) (z4 : Int32) (hz : zH), k73 z0 z1 z2 z3 z4 hz = some (ro_, ho_) → zq_wp sc (d + 1) 100 73 [some (.ref z0), some (.ref z1), some (.int z2), some (.int z3), some (.int z4), none] [] hz (none, ho_)) → zx_Ways_place_l23 sc rec n y12 y13 y14 y15 y16 y17 h18 k73 = some (ro_, ho_) → zq_wp sc (d + 1) 100 23 [some (.ref y12), some (.ref y13), some (.int y14), some (.int y15), some (.int y16), some (.int y17)] [] h18 (none, ho_) := by
  intro n
  induction n with
  | zero => intro y12 y13 y14 y15 y16 y17 h18 k73 ro_ ho_ hk73 hf; cases hf
  | succ n ih =>
    intro y12 y13 y14 y15 y16 y17 h18 k73 ro_ ho_ hk73 hf
    refine zq_wg 2 (pc' := 26) (lv' := [some (.ref y12), some (.ref y13), some (.int y14), some (.int y15), some (.int y16), some (.int y17)]) (st' := [.ref y13, .int y17]) (h' := h18) rfl ?_
    obtain ⟨v19, e20, hf⟩ := zo_b_s hf
    refine zr_gI rfl rfl (by decide) rfl e20 ?_
    refine zr_if (v19 ≤ y17) 73 32 (st' := []) rfl rfl (fun b21 => ?_) (fun b21 => ?_)
    · have hf := zo_t hf b21
      refine zq_fg [some (.ref y12), some (.ref y13), some (.int y14), some (.int y15), some (.int y16), none] (zq_lvle_s (zq_lvle_s (zq_lvle_s (zq_lvle_s (zq_lvle_s (zq_lvle_n zq_lvle_nil)))))) ?_
      exact hk73 y12 y13 y14 y15 y16 h18 hf
    · have hf := zo_f hf b21
      refine zq_wg 5 (pc' := 38) (lv' := [some (.ref y12), some (.ref y13), some (.int y14), some (.int y15), some (.int y16), some (.int y17)]) (st' := [.int ((y15 >>> (y17 &&& 31)) &&& (1 : Int32))]) (h' := h18) rfl ?_
      obtain ⟨j67_28, hjj67_28, hf⟩ := zo_lj hf
      have kj67_28 : ∀ (x22 : Nat) (x23 : Nat) (x24 : Int32) (x25 : Int32) (x26 : Int32) (x27 : Int32) (h28 : zH), j67_28 x22 x23 x24 x25 x26 x27 h28 = some (ro_, ho_) → zq_wp sc (d + 1) 100 67 [some (.ref x22), some (.ref x23), some (.int x24), some (.int x25), some (.int x26), some (.int x27)] [] h28 (none, ho_) := by
        intro x22 x23 x24 x25 x26 x27 h28 hf
        rw [hjj67_28] at hf
        refine zq_wg 2 (pc' := 23) (lv' := [some (.ref x22), some (.ref x23), some (.int x24), some (.int x25), some (.int x26), some (.int (x27 + (1 : Int32)))]) (st' := []) (h' := h28) rfl ?_
        exact ih x22 x23 x24 x25 x26 (x27 + (1 : Int32)) h28 _ _ _ hk73 hf
      refine zr_if (((y15 >>> (y17 &&& 31)) &&& (1 : Int32)) = 0) 41 67 (st' := []) rfl rfl (fun b29 => ?_) (fun b29 => ?_)
      · have hf := zo_t hf b29
        refine zq_wg 1 (pc' := 42) (lv' := [some (.ref y12), some (.ref y13), some (.int y14), some (.int y15), some (.int y16), some (.int y17)]) (st' := [.ref y12]) (h' := h18) rfl ?_
        obtain ⟨v30, e31, hf⟩ := zo_b_s hf
        refine zr_gR rfl rfl (by decide) rfl e31 ?_
        refine zq_wg 2 (pc' := 48) (lv' := [some (.ref y12), some (.ref y13), some (.int y14), some (.int y15), some (.int y16), some (.int y17)]) (st' := [.int y17, .int y14, .ref v30]) (h' := h18) rfl ?_
        obtain ⟨w33, h32, e34, hf⟩ := zo_c_s hf
        refine zr_cs zq_m11 [.ref v30, .int y14, .int y17] [] rfl rfl (by decide) rfl rfl rfl (Nat.le_of_ble_eq_true rfl) (Nat.le_of_ble_eq_true rfl) (zx_put_ok sc d (by omega) e34) ?_
        refine zq_wg 0 (pc' := 51) (lv' := [some (.ref y12), some (.ref y13), some (.int y14), some (.int y15), some (.int y16), some (.int y17)]) (st' := []) (h' := h32) rfl ?_
        refine zq_wg 11 (pc' := 64) (lv' := [some (.ref y12), some (.ref y13), some (.int y14), some (.int y15), some (.int y16), some (.int y17)]) (st' := [.int y16, .int (y15 ||| ((1 : Int32) <<< (y17 &&& 31))), .int (y14 + (1 : Int32)), .ref y13, .ref y12]) (h' := h32) rfl ?_
        obtain ⟨e38, w36, h35, e37, hf⟩ := zo_v_s hf
        refine zr_cv zq_m100 [.ref y13, .int (y14 + (1 : Int32)), .int (y15 ||| ((1 : Int32) <<< (y17 &&& 31))), .int y16] [] rfl rfl rfl rfl rfl (Nat.le_of_ble_eq_true rfl) (Nat.le_of_ble_eq_true rfl) e38 (hrec y12 y13 (y14 + (1 : Int32)) (y15 ||| ((1 : Int32) <<< (y17 &&& 31))) y16 h32 _ _ e37) ?_
        refine zq_wg 0 (pc' := 67) (lv' := [some (.ref y12), some (.ref y13), some (.int y14), some (.int y15), some (.int y16), some (.int y17)]) (st' := []) (h' := h35) rfl ?_
        exact kj67_28 y12 y13 y14 y15 y16 y17 h35 hf
      · have hf := zo_f hf b29
        exact kj67_28 y12 y13 y14 y15 y16 y17 h18 hf
set_option maxRecDepth 4000 in
theorem zx_Ways_place_bok (sc : zX) (d : Nat) (hd : 4 ≤ d) (rec : Nat → Nat → Int32 → Int32 → Int32 → zH → Option (Unit × zH)) (hrec : ∀ (z0 : Nat) (z1 : Nat) (z2 : Int32) (z3 : Int32) (z4 : Int32) (hz : zH) (rz : Unit) (hy : zH), rec z0 z1 z2 z3 z4 hz = some (rz, hy) → zq_wm sc d 100 [.ref z0, .ref z1, .int z2, .int z3, .int z4] hz (none, hy)) (a0 : Nat) (a1 : Nat) (a2 : Int32) (a3 : Int32) (a4 : Int32) (h : zH) (ro_ : Unit) (ho_ : zH) (hf : zx_Ways_place_b sc rec a0 a1 a2 a3 a4 h = some (ro_, ho_)) : zq_wm sc (d + 1) 100 [.ref a0, .ref a1, .int a2, .int a3, .int a4] h (none, ho_) := by
  unfold zx_Ways_place_b at hf
  show zq_wp sc (d + 1) 100 0 [some (.ref a0), some (.ref a1), some (.int a2), some (.int a3), some (.int a4), none] [] h _
  refine zq_wg 2 (pc' := 2) (lv' := [some (.ref a0), some (.ref a1), some (.int a2), some (.int a3), some (.int a4), none]) (st' := [.ref a1, .int a2]) (h' := h) rfl ?_
  obtain ⟨v1, e2, hf⟩ := zo_b_s hf
  refine zr_gI rfl rfl (by decide) rfl e2 ?_
  obtain ⟨j14_5, hjj14_5, hf⟩ := zo_lj hf
  have kj14_5 : ∀ (x3 : Nat) (x4 : Nat) (h5 : zH), j14_5 x3 x4 h5 = some (ro_, ho_) → zq_wp sc (d + 1) 100 14 [some (.ref x3), some (.ref x4), none, none, none, none] [] h5 (none, ho_) := by
    intro x3 x4 h5 hf
    rw [hjj14_5] at hf
    refine zq_wg 2 (pc' := 16) (lv' := [some (.ref x3), some (.ref x4), none, none, none, none]) (st' := [.ref x4, .ref x3]) (h' := h5) rfl ?_
    obtain ⟨e9, w7, h6, e8, hf⟩ := zo_v_s hf
    refine zr_cv zq_m101 [.ref x4] [] rfl rfl rfl rfl rfl (Nat.le_of_ble_eq_true rfl) (Nat.le_of_ble_eq_true rfl) e9 (zx_Ways_settle_ok sc d (by omega) e8) ?_
    refine zq_wg 0 (pc' := 19) (lv' := [some (.ref x3), some (.ref x4), none, none, none, none]) (st' := []) (h' := h6) rfl ?_
    exact zr_rv rfl rfl hf
  refine zr_if (v1 ≤ a2) 14 8 (st' := []) rfl rfl (fun b10 => ?_) (fun b10 => ?_)
  · have hf := zo_t hf b10
    refine zq_fg [some (.ref a0), some (.ref a1), none, none, none, none] (zq_lvle_s (zq_lvle_s (zq_lvle_n (zq_lvle_n (zq_lvle_n (zq_lvle_s zq_lvle_nil)))))) ?_
    exact kj14_5 a0 a1 h hf
  · have hf := zo_f hf b10
    refine zq_wg 2 (pc' := 11) (lv' := [some (.ref a0), some (.ref a1), some (.int a2), some (.int a3), some (.int a4), none]) (st' := [.int (6 : Int32), .int a2]) (h' := h) rfl ?_
    refine zr_if (a2 < (6 : Int32)) 20 14 (st' := []) rfl rfl (fun b11 => ?_) (fun b11 => ?_)
    · have hf := zo_t hf b11
      refine zq_wg 2 (pc' := 23) (lv' := [some (.ref a0), some (.ref a1), some (.int a2), some (.int a3), some (.int a4), some (.int (0 : Int32))]) (st' := []) (h' := h) rfl ?_
      refine zx_Ways_place_l23_ok sc d hd rec hrec zo_F a0 a1 a2 a3 a4 (0 : Int32) h _ _ _ ?_ hf
      · intro x39 x40 x41 x42 x43 h44 hf
        refine zq_wg 1 (pc' := 75) (lv' := [some (.ref x39), some (.ref x40), some (.int x41), some (.int x42), some (.int x43), none]) (st' := [.int x43]) (h' := h44) rfl ?_
        refine zr_if (x43 ≤ 0) 100 78 (st' := []) rfl rfl (fun b45 => ?_) (fun b45 => ?_)
        · have hf := zo_t hf b45
          exact zr_rv rfl rfl hf
        · have hf := zo_f hf b45
          refine zq_wg 1 (pc' := 79) (lv' := [some (.ref x39), some (.ref x40), some (.int x41), some (.int x42), some (.int x43), none]) (st' := [.ref x39]) (h' := h44) rfl ?_
          obtain ⟨v46, e47, hf⟩ := zo_b_s hf
          refine zr_gR rfl rfl (by decide) rfl e47 ?_
          refine zq_wg 2 (pc' := 84) (lv' := [some (.ref x39), some (.ref x40), some (.int x41), some (.int x42), some (.int x43), none]) (st' := [.int (-1 : Int32), .int x41, .ref v46]) (h' := h44) rfl ?_
          obtain ⟨w49, h48, e50, hf⟩ := zo_c_s hf
          refine zr_cs zq_m11 [.ref v46, .int x41, .int (-1 : Int32)] [] rfl rfl (by decide) rfl rfl rfl (Nat.le_of_ble_eq_true rfl) (Nat.le_of_ble_eq_true rfl) (zx_put_ok sc d (by omega) e50) ?_
          refine zq_wg 0 (pc' := 87) (lv' := [some (.ref x39), some (.ref x40), some (.int x41), some (.int x42), some (.int x43), none]) (st' := []) (h' := h48) rfl ?_
          refine zq_wg 9 (pc' := 97) (lv' := [some (.ref x39), some (.ref x40), some (.int x41), some (.int x42), some (.int x43), none]) (st' := [.int (x43 - (1 : Int32)), .int x42, .int (x41 + (1 : Int32)), .ref x40, .ref x39]) (h' := h48) rfl ?_
          obtain ⟨e54, w52, h51, e53, hf⟩ := zo_v_s hf
          refine zr_cv zq_m100 [.ref x40, .int (x41 + (1 : Int32)), .int x42, .int (x43 - (1 : Int32))] [] rfl rfl rfl rfl rfl (Nat.le_of_ble_eq_true rfl) (Nat.le_of_ble_eq_true rfl) e54 (hrec x39 x40 (x41 + (1 : Int32)) x42 (x43 - (1 : Int32)) h48 _ _ e53) ?_
          refine zq_wg 0 (pc' := 100) (lv' := [some (.ref x39), some (.ref x40), some (.int x41), some (.int x42), some (.int x43), none]) (st' := []) (h' := h51) rfl ?_
          exact zr_rv rfl rfl hf
    · have hf := zo_f hf b11
      refine zq_fg [some (.ref a0), some (.ref a1), none, none, none, none] (zq_lvle_s (zq_lvle_s (zq_lvle_n (zq_lvle_n (zq_lvle_n (zq_lvle_s zq_lvle_nil)))))) ?_
      exact kj14_5 a0 a1 h hf
def zx_Ways_place (sc : zX) : Nat → Nat → Nat → Int32 → Int32 → Int32 → zH → Option (Unit × zH)
  | 0, _, _, _, _, _, _ => none
  | n + 1, a0, a1, a2, a3, a4, h => zx_Ways_place_b sc (zx_Ways_place sc n) a0 a1 a2 a3 a4 h
theorem zx_Ways_place_ok (sc : zX) : ∀ (n d : Nat) (hd : n + 5 ≤ d) {a0 : Nat} {a1 : Nat} {a2 : Int32} {a3 : Int32} {a4 : Int32} {h : zH} {ro_ : Unit} {ho_ : zH} (hf : zx_Ways_place sc n a0 a1 a2 a3 a4 h = some (ro_, ho_)), zq_wm sc d 100 [.ref a0, .ref a1, .int a2, .int a3, .int a4] h (none, ho_) := by
  intro n
  induction n with
  | zero => intro d hd a0 a1 a2 a3 a4 h ro_ ho_ hf; cases hf
  | succ n ih =>
    intro d hd a0 a1 a2 a3 a4 h ro_ ho_ hf
    obtain ⟨d, rfl⟩ : ∃ d', d = d' + 1 := ⟨d - 1, by omega⟩
    exact zx_Ways_place_bok sc d (by omega) (zx_Ways_place sc n) (fun z0 z1 z2 z3 z4 hz rz hy hf => ih d (by omega) hf) a0 a1 a2 a3 a4 h ro_ ho_ hf
set_option maxRecDepth 4000 in
def zx_Ways_learn_l30 (sc : zX) : Nat → Nat → Nat → Int32 → zH → (Nat → Nat → zH → Option (Unit × zH)) → Option (Unit × zH)
  | 0, _, _, _, _, _ => none
  | n + 1, y12, y13, y14, h15, k52 => if (343 : Int32) ≤ y14 then (k52 y12 y13 h15) else (zo_b (zo_gR h15 8 y12 9) (fun v17 => zo_c (zx_put sc v17 y14 (0 : Int32) h15) (fun w20 h19 => zx_Ways_learn_l30 sc n y12 y13 (y14 + (1 : Int32)) h19 k52)))
set_option maxRecDepth 4000 in
def zx_Ways_learn (sc : zX) (a0 : Nat) (a1 : Nat) (h : zH) : Option (Unit × zH) := zo_b (zo_gI h 8 a0 0) (fun v1 => if v1 = 0 then (zo_b (zo_pI h 8 a0 1 (-1 : Int32)) (fun h4 => zo_b (zo_pL h4 8 a0 2 (0 : Int64)) (fun h6 => zo_b (zo_pI h6 8 a0 5 (0 : Int32)) (fun h8 => zo_b (zo_pI h8 8 a0 6 (0 : Int32)) (fun h10 => zx_Ways_learn_l30 sc zo_F a0 a1 (0 : Int32) h10 (fun (x22 : Nat) (x23 : Nat) (h24 : zH) => zo_b (zo_gI h24 0 x23 0) (fun v25 => zo_b (zo_gI h24 0 x23 1) (fun v27 => zo_v h24 x22 8 (zx_Ways_place sc 64 x22 x23 (0 : Int32) (0 : Int32) (v25 - v27) h24) (fun w30 h29 => zo_b (zo_pB h29 8 x22 0 (1 : Int32)) (fun h33 => some ((), h33))))))))))) else (some ((), h)))
set_option maxRecDepth 4000 in
theorem zx_Ways_learn_l30_ok (sc : zX) (d : Nat) (hd : 69 ≤ d) : ∀ (n : Nat) (y12 : Nat) (y13 : Nat) (y14 : Int32) (h15 : zH) (k52 : Nat → Nat → zH → Option (Unit × zH)) (ro_ : Unit) (ho_ : zH), (∀ (z0 : Nat) (z1 : Nat) (hz : zH), k52 z0 z1 hz = some (ro_, ho_) → zq_wp sc (d + 1) 99 52 [some (.ref z0), some (.ref z1), none] [] hz (none, ho_)) → zx_Ways_learn_l30 sc n y12 y13 y14 h15 k52 = some (ro_, ho_) → zq_wp sc (d + 1) 99 30 [some (.ref y12), some (.ref y13), some (.int y14)] [] h15 (none, ho_) := by
  intro n
  induction n with
  | zero => intro y12 y13 y14 h15 k52 ro_ ho_ hk52 hf; cases hf
  | succ n ih =>
    intro y12 y13 y14 h15 k52 ro_ ho_ hk52 hf
    refine zq_wg 2 (pc' := 34) (lv' := [some (.ref y12), some (.ref y13), some (.int y14)]) (st' := [.int (343 : Int32), .int y14]) (h' := h15) rfl ?_
    refine zr_if ((343 : Int32) ≤ y14) 52 37 (st' := []) rfl rfl (fun b16 => ?_) (fun b16 => ?_)
    · have hf := zo_t hf b16
      refine zq_fg [some (.ref y12), some (.ref y13), none] (zq_lvle_s (zq_lvle_s (zq_lvle_n zq_lvle_nil))) ?_
      exact hk52 y12 y13 h15 hf
    · have hf := zo_f hf b16
      refine zq_wg 1 (pc' := 38) (lv' := [some (.ref y12), some (.ref y13), some (.int y14)]) (st' := [.ref y12]) (h' := h15) rfl ?_
      obtain ⟨v17, e18, hf⟩ := zo_b_s hf
      refine zr_gR rfl rfl (by decide) rfl e18 ?_
      refine zq_wg 2 (pc' := 43) (lv' := [some (.ref y12), some (.ref y13), some (.int y14)]) (st' := [.int (0 : Int32), .int y14, .ref v17]) (h' := h15) rfl ?_
      obtain ⟨w20, h19, e21, hf⟩ := zo_c_s hf
      refine zr_cs zq_m11 [.ref v17, .int y14, .int (0 : Int32)] [] rfl rfl (by decide) rfl rfl rfl (Nat.le_of_ble_eq_true rfl) (Nat.le_of_ble_eq_true rfl) (zx_put_ok sc d (by omega) e21) ?_
      refine zq_wg 0 (pc' := 46) (lv' := [some (.ref y12), some (.ref y13), some (.int y14)]) (st' := []) (h' := h19) rfl ?_
      refine zq_wg 2 (pc' := 30) (lv' := [some (.ref y12), some (.ref y13), some (.int (y14 + (1 : Int32)))]) (st' := []) (h' := h19) rfl ?_
      exact ih y12 y13 (y14 + (1 : Int32)) h19 _ _ _ hk52 hf
set_option maxRecDepth 4000 in
theorem zx_Ways_learn_ok (sc : zX) (d : Nat) (hd : 70 ≤ d) {a0 : Nat} {a1 : Nat} {h : zH} {ro_ : Unit} {ho_ : zH} (hf : zx_Ways_learn sc a0 a1 h = some (ro_, ho_)) : zq_wm sc d 99 [.ref a0, .ref a1] h (none, ho_) := by
  unfold zx_Ways_learn at hf
  obtain ⟨d, rfl⟩ : ∃ d', d = d' + 1 := ⟨d - 1, by omega⟩
  have hd : 69 ≤ d := by omega
  show zq_wp sc (d + 1) 99 0 [some (.ref a0), some (.ref a1), none] [] h _
  refine zq_wg 1 (pc' := 1) (lv' := [some (.ref a0), some (.ref a1), none]) (st' := [.ref a0]) (h' := h) rfl ?_
  obtain ⟨v1, e2, hf⟩ := zo_b_s hf
  refine zr_gI rfl rfl (by decide) rfl e2 ?_
  refine zr_if (v1 = 0) 8 7 (st' := []) rfl rfl (fun b3 => ?_) (fun b3 => ?_)
  · have hf := zo_t hf b3
    refine zq_wg 2 (pc' := 10) (lv' := [some (.ref a0), some (.ref a1), none]) (st' := [.int (-1 : Int32), .ref a0]) (h' := h) rfl ?_
    obtain ⟨h4, e5, hf⟩ := zo_b_s hf
    refine zr_pI rfl rfl (by decide) rfl rfl e5 ?_
    refine zq_wg 2 (pc' := 15) (lv' := [some (.ref a0), some (.ref a1), none]) (st' := [.long (0 : Int64), .ref a0]) (h' := h4) rfl ?_
    obtain ⟨h6, e7, hf⟩ := zo_b_s hf
    refine zr_pL rfl rfl (by decide) rfl rfl e7 ?_
    refine zq_wg 2 (pc' := 20) (lv' := [some (.ref a0), some (.ref a1), none]) (st' := [.int (0 : Int32), .ref a0]) (h' := h6) rfl ?_
    obtain ⟨h8, e9, hf⟩ := zo_b_s hf
    refine zr_pI rfl rfl (by decide) rfl rfl e9 ?_
    refine zq_wg 2 (pc' := 25) (lv' := [some (.ref a0), some (.ref a1), none]) (st' := [.int (0 : Int32), .ref a0]) (h' := h8) rfl ?_
    obtain ⟨h10, e11, hf⟩ := zo_b_s hf
    refine zr_pI rfl rfl (by decide) rfl rfl e11 ?_
    refine zq_wg 2 (pc' := 30) (lv' := [some (.ref a0), some (.ref a1), some (.int (0 : Int32))]) (st' := []) (h' := h10) rfl ?_
    refine zx_Ways_learn_l30_ok sc d hd zo_F a0 a1 (0 : Int32) h10 _ _ _ ?_ hf
    · intro x22 x23 h24 hf
      refine zq_wg 5 (pc' := 57) (lv' := [some (.ref x22), some (.ref x23), none]) (st' := [.ref x23, .int (0 : Int32), .int (0 : Int32), .ref x23, .ref x22]) (h' := h24) rfl ?_
      obtain ⟨v25, e26, hf⟩ := zo_b_s hf
      refine zr_gI rfl rfl (by decide) rfl e26 ?_
      refine zq_wg 1 (pc' := 61) (lv' := [some (.ref x22), some (.ref x23), none]) (st' := [.ref x23, .int v25, .int (0 : Int32), .int (0 : Int32), .ref x23, .ref x22]) (h' := h24) rfl ?_
      obtain ⟨v27, e28, hf⟩ := zo_b_s hf
      refine zr_gI rfl rfl (by decide) rfl e28 ?_
      refine zq_wg 1 (pc' := 65) (lv' := [some (.ref x22), some (.ref x23), none]) (st' := [.int (v25 - v27), .int (0 : Int32), .int (0 : Int32), .ref x23, .ref x22]) (h' := h24) rfl ?_
      obtain ⟨e32, w30, h29, e31, hf⟩ := zo_v_s hf
      refine zr_cv zq_m100 [.ref x23, .int (0 : Int32), .int (0 : Int32), .int (v25 - v27)] [] rfl rfl rfl rfl rfl (Nat.le_of_ble_eq_true rfl) (Nat.le_of_ble_eq_true rfl) e32 (zx_Ways_place_ok sc 64 d (by omega) e31) ?_
      refine zq_wg 0 (pc' := 68) (lv' := [some (.ref x22), some (.ref x23), none]) (st' := []) (h' := h29) rfl ?_
      refine zq_wg 2 (pc' := 70) (lv' := [some (.ref x22), some (.ref x23), none]) (st' := [.int (1 : Int32), .ref x22]) (h' := h29) rfl ?_
      obtain ⟨h33, e34, hf⟩ := zo_b_s hf
      refine zr_pB rfl rfl (by decide) rfl rfl e34 ?_
      exact zr_rv rfl rfl hf
  · have hf := zo_f hf b3
    exact zr_rv rfl rfl hf
