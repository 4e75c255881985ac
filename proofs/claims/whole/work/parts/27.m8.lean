/-! methods as functions, and their walks; printed by wip/whole/decomp.py -/
set_option maxRecDepth 4000 in
def zm_draw (sc : zX) (a0 : Nat) (a1 : Int32) (h : zH) : Option (Int32 × zH) := zo_b (zo_pI h 10 a0 0 (0 : Int32)) (fun h1 => zo_c (zm_within sc a1 (0 : Int32) (9999 : Int32) h1) (fun v4 h3 => if v4 = 0 then (some ((0 : Int32), h3)) else (zo_v h3 a0 10 (zm_keeps sc a0 h3) (fun w8 h7 => zo_b (zo_pL h7 10 a0 30 a1.toInt64) (fun h11 => zo_v h11 a0 10 (zm_draws sc a0 (0 : Int32) h11) (fun w14 h13 => some ((1 : Int32), h13)))))))
set_option maxRecDepth 4000 in
theorem zm_draw_ok (sc : zX) (d : Nat) (hd : 2 ≤ d) {a0 : Nat} {a1 : Int32} {h : zH} {ro_ : Int32} {ho_ : zH} (hf : zm_draw sc a0 a1 h = some (ro_, ho_)) : zq_wm sc d 204 [.ref a0, .int a1] h (some (.int ro_), ho_) := by
  unfold zm_draw at hf
  obtain ⟨d, rfl⟩ : ∃ d', d = d' + 1 := ⟨d - 1, by omega⟩
  have hd : 1 ≤ d := by omega
  show zq_wp sc (d + 1) 204 0 [some (.ref a0), some (.int a1)] [] h _
  refine zq_wg 2 (pc' := 2) (lv' := [some (.ref a0), some (.int a1)]) (st' := [.int (0 : Int32), .ref a0]) (h' := h) rfl ?_
  obtain ⟨h1, e2, hf⟩ := zo_b_s hf
  refine zr_pI rfl rfl (by decide) rfl rfl e2 ?_
  refine zq_wg 3 (pc' := 10) (lv' := [some (.ref a0), some (.int a1)]) (st' := [.int (9999 : Int32), .int (0 : Int32), .int a1]) (h' := h1) rfl ?_
  obtain ⟨v4, h3, e5, hf⟩ := zo_c_s hf
  refine zr_cs zq_m173 [.int a1, .int (0 : Int32), .int (9999 : Int32)] [] rfl rfl (by decide) rfl rfl rfl (Nat.le_of_ble_eq_true rfl) (Nat.le_of_ble_eq_true rfl) (zm_within_ok sc d (by omega) e5) ?_
  refine zq_wg 0 (pc' := 13) (lv' := [some (.ref a0), some (.int a1)]) (st' := [.int v4]) (h' := h3) rfl ?_
  refine zr_if (v4 = 0) 16 18 (st' := []) rfl rfl (fun b6 => ?_) (fun b6 => ?_)
  · have hf := zo_t hf b6
    refine zq_wg 1 (pc' := 17) (lv' := [some (.ref a0), some (.int a1)]) (st' := [.int (0 : Int32)]) (h' := h3) rfl ?_
    exact zr_ri rfl rfl rfl hf
  · have hf := zo_f hf b6
    refine zq_wg 1 (pc' := 19) (lv' := [some (.ref a0), some (.int a1)]) (st' := [.ref a0]) (h' := h3) rfl ?_
    obtain ⟨e10, w8, h7, e9, hf⟩ := zo_v_s hf
    refine zr_cv zq_m205 [] [] rfl rfl rfl rfl rfl (Nat.le_of_ble_eq_true rfl) (Nat.le_of_ble_eq_true rfl) e10 (zm_keeps_ok sc d (by omega) e9) ?_
    refine zq_wg 0 (pc' := 22) (lv' := [some (.ref a0), some (.int a1)]) (st' := []) (h' := h7) rfl ?_
    refine zq_wg 3 (pc' := 25) (lv' := [some (.ref a0), some (.int a1)]) (st' := [.long a1.toInt64, .ref a0]) (h' := h7) rfl ?_
    obtain ⟨h11, e12, hf⟩ := zo_b_s hf
    refine zr_pL rfl rfl (by decide) rfl rfl e12 ?_
    refine zq_wg 2 (pc' := 30) (lv' := [some (.ref a0), some (.int a1)]) (st' := [.int (0 : Int32), .ref a0]) (h' := h11) rfl ?_
    obtain ⟨e16, w14, h13, e15, hf⟩ := zo_v_s hf
    refine zr_cv zq_m207 [.int (0 : Int32)] [] rfl rfl rfl rfl rfl (Nat.le_of_ble_eq_true rfl) (Nat.le_of_ble_eq_true rfl) e16 (zm_draws_ok sc d (by omega) e15) ?_
    refine zq_wg 0 (pc' := 33) (lv' := [some (.ref a0), some (.int a1)]) (st' := []) (h' := h13) rfl ?_
    refine zq_wg 1 (pc' := 34) (lv' := [some (.ref a0), some (.int a1)]) (st' := [.int (1 : Int32)]) (h' := h13) rfl ?_
    exact zr_ri rfl rfl rfl hf
set_option maxRecDepth 4000 in
def zm_maySell (sc : zX) (a0 : Nat) (a1 : Int32) (a2 : Int32) (a3 : Int32) (a4 : Int32) (h : zH) : Option (Int32 × zH) := if a2 = a3 then (some ((0 : Int32), h)) else (zo_v h a0 10 (zm_postHeldBy sc a0 a1 a2 h) (fun v3 h2 => if v3 < 0 then (some ((0 : Int32), h2)) else (zo_b (zo_gR h2 10 a0 25) (fun v7 => zo_b (zq_rdI sc h2 v7 ((a1 + (10 : Int32)) + a3)) (fun v9 => if v9 < a4 then (some ((0 : Int32), h2)) else (some ((1 : Int32), h2)))))))
set_option maxRecDepth 4000 in
theorem zm_maySell_ok (sc : zX) (d : Nat) (hd : 2 ≤ d) {a0 : Nat} {a1 : Int32} {a2 : Int32} {a3 : Int32} {a4 : Int32} {h : zH} {ro_ : Int32} {ho_ : zH} (hf : zm_maySell sc a0 a1 a2 a3 a4 h = some (ro_, ho_)) : zq_wm sc d 210 [.ref a0, .int a1, .int a2, .int a3, .int a4] h (some (.int ro_), ho_) := by
  unfold zm_maySell at hf
  obtain ⟨d, rfl⟩ : ∃ d', d = d' + 1 := ⟨d - 1, by omega⟩
  have hd : 1 ≤ d := by omega
  show zq_wp sc (d + 1) 210 0 [some (.ref a0), some (.int a1), some (.int a2), some (.int a3), some (.int a4)] [] h _
  refine zq_wg 2 (pc' := 2) (lv' := [some (.ref a0), some (.int a1), some (.int a2), some (.int a3), some (.int a4)]) (st' := [.int a3, .int a2]) (h' := h) rfl ?_
  refine zr_if (a2 = a3) 34 5 (st' := []) rfl rfl (fun b1 => ?_) (fun b1 => ?_)
  · have hf := zo_t hf b1
    refine zq_wg 1 (pc' := 35) (lv' := [some (.ref a0), some (.int a1), some (.int a2), some (.int a3), some (.int a4)]) (st' := [.int (0 : Int32)]) (h' := h) rfl ?_
    exact zr_ri rfl rfl rfl hf
  · have hf := zo_f hf b1
    refine zq_wg 3 (pc' := 8) (lv' := [some (.ref a0), some (.int a1), some (.int a2), some (.int a3), some (.int a4)]) (st' := [.int a2, .int a1, .ref a0]) (h' := h) rfl ?_
    obtain ⟨e5, v3, h2, e4, hf⟩ := zo_v_s hf
    refine zr_cv zq_m199 [.int a1, .int a2] [] rfl rfl rfl rfl rfl (Nat.le_of_ble_eq_true rfl) (Nat.le_of_ble_eq_true rfl) e5 (zm_postHeldBy_ok sc d (by omega) e4) ?_
    refine zq_wg 0 (pc' := 11) (lv' := [some (.ref a0), some (.int a1), some (.int a2), some (.int a3), some (.int a4)]) (st' := [.int v3]) (h' := h2) rfl ?_
    refine zr_if (v3 < 0) 34 14 (st' := []) rfl rfl (fun b6 => ?_) (fun b6 => ?_)
    · have hf := zo_t hf b6
      refine zq_wg 1 (pc' := 35) (lv' := [some (.ref a0), some (.int a1), some (.int a2), some (.int a3), some (.int a4)]) (st' := [.int (0 : Int32)]) (h' := h2) rfl ?_
      exact zr_ri rfl rfl rfl hf
    · have hf := zo_f hf b6
      refine zq_wg 1 (pc' := 15) (lv' := [some (.ref a0), some (.int a1), some (.int a2), some (.int a3), some (.int a4)]) (st' := [.ref a0]) (h' := h2) rfl ?_
      obtain ⟨v7, e8, hf⟩ := zo_b_s hf
      refine zr_gR rfl rfl (by decide) rfl e8 ?_
      refine zq_wg 5 (pc' := 24) (lv' := [some (.ref a0), some (.int a1), some (.int a2), some (.int a3), some (.int a4)]) (st' := [.int ((a1 + (10 : Int32)) + a3), .ref v7]) (h' := h2) rfl ?_
      obtain ⟨v9, e10, hf⟩ := zo_b_s hf
      refine zr_iald rfl e10 ?_
      refine zq_wg 1 (pc' := 27) (lv' := [some (.ref a0), some (.int a1), some (.int a2), some (.int a3), some (.int a4)]) (st' := [.int a4, .int v9]) (h' := h2) rfl ?_
      refine zr_if (v9 < a4) 34 30 (st' := []) rfl rfl (fun b11 => ?_) (fun b11 => ?_)
      · have hf := zo_t hf b11
        refine zq_wg 1 (pc' := 35) (lv' := [some (.ref a0), some (.int a1), some (.int a2), some (.int a3), some (.int a4)]) (st' := [.int (0 : Int32)]) (h' := h2) rfl ?_
        exact zr_ri rfl rfl rfl hf
      · have hf := zo_f hf b11
        refine zq_wg 2 (pc' := 35) (lv' := [some (.ref a0), some (.int a1), some (.int a2), some (.int a3), some (.int a4)]) (st' := [.int (1 : Int32)]) (h' := h2) rfl ?_
        exact zr_ri rfl rfl rfl hf
set_option maxRecDepth 4000 in
def zm_sells (sc : zX) (a0 : Nat) (a1 : Int32) (a2 : Int32) (a3 : Int32) (a4 : Int32) (h : zH) : Option (Unit × zH) := zo_v h a0 10 (zm_postHeldBy sc a0 a1 a2 h) (fun v2 h1 => zo_v h1 a0 10 (zm_postHeldBy sc a0 a1 a3 h1) (fun v6 h5 => zo_b (zo_gR h5 10 a0 25) (fun v9 => zo_b (zq_wrX 1 h5 v9 ((a1 + (4 : Int32)) + v2) a3) (fun h11 => zo_l (fun (x13 : Nat) (x14 : Int32) (x15 : Int32) (x16 : Int32) (x17 : Int32) (h18 : zH) => zo_b (zo_gR h18 10 x13 25) (fun v19 => zo_b (zq_rdI sc h18 v19 ((x14 + (10 : Int32)) + x15)) (fun v21 => zo_b (zq_wrX 1 h18 v19 ((x14 + (10 : Int32)) + x15) (v21 + x17)) (fun h23 => zo_b (zo_gR h23 10 x13 25) (fun v25 => zo_b (zq_rdI sc h23 v25 ((x14 + (10 : Int32)) + x16)) (fun v27 => zo_b (zq_wrX 1 h23 v25 ((x14 + (10 : Int32)) + x16) (v27 - x17)) (fun h29 => some ((), h29)))))))) (fun j45_18 => if v6 < 0 then (j45_18 a0 a1 a2 a3 a4 h11) else (zo_b (zo_gR h11 10 a0 25) (fun v32 => zo_b (zq_wrX 1 h11 v32 ((a1 + (4 : Int32)) + v6) a2) (fun h34 => j45_18 a0 a1 a2 a3 a4 h34))))))))
set_option maxRecDepth 4000 in
theorem zm_sells_ok (sc : zX) (d : Nat) (hd : 2 ≤ d) {a0 : Nat} {a1 : Int32} {a2 : Int32} {a3 : Int32} {a4 : Int32} {h : zH} {ro_ : Unit} {ho_ : zH} (hf : zm_sells sc a0 a1 a2 a3 a4 h = some (ro_, ho_)) : zq_wm sc d 211 [.ref a0, .int a1, .int a2, .int a3, .int a4] h (none, ho_) := by
  unfold zm_sells at hf
  obtain ⟨d, rfl⟩ : ∃ d', d = d' + 1 := ⟨d - 1, by omega⟩
  have hd : 1 ≤ d := by omega
  show zq_wp sc (d + 1) 211 0 [some (.ref a0), some (.int a1), some (.int a2), some (.int a3), some (.int a4), none, none] [] h _
  refine zq_wg 3 (pc' := 3) (lv' := [some (.ref a0), some (.int a1), some (.int a2), some (.int a3), some (.int a4), none, none]) (st' := [.int a2, .int a1, .ref a0]) (h' := h) rfl ?_
  obtain ⟨e4, v2, h1, e3, hf⟩ := zo_v_s hf
  refine zr_cv zq_m199 [.int a1, .int a2] [] rfl rfl rfl rfl rfl (Nat.le_of_ble_eq_true rfl) (Nat.le_of_ble_eq_true rfl) e4 (zm_postHeldBy_ok sc d (by omega) e3) ?_
  refine zq_wg 0 (pc' := 6) (lv' := [some (.ref a0), some (.int a1), some (.int a2), some (.int a3), some (.int a4), none, none]) (st' := [.int v2]) (h' := h1) rfl ?_
  refine zq_wg 4 (pc' := 11) (lv' := [some (.ref a0), some (.int a1), some (.int a2), some (.int a3), some (.int a4), some (.int v2), none]) (st' := [.int a3, .int a1, .ref a0]) (h' := h1) rfl ?_
  obtain ⟨e8, v6, h5, e7, hf⟩ := zo_v_s hf
  refine zr_cv zq_m199 [.int a1, .int a3] [] rfl rfl rfl rfl rfl (Nat.le_of_ble_eq_true rfl) (Nat.le_of_ble_eq_true rfl) e8 (zm_postHeldBy_ok sc d (by omega) e7) ?_
  refine zq_wg 0 (pc' := 14) (lv' := [some (.ref a0), some (.int a1), some (.int a2), some (.int a3), some (.int a4), some (.int v2), none]) (st' := [.int v6]) (h' := h5) rfl ?_
  refine zq_wg 2 (pc' := 17) (lv' := [some (.ref a0), some (.int a1), some (.int a2), some (.int a3), some (.int a4), some (.int v2), some (.int v6)]) (st' := [.ref a0]) (h' := h5) rfl ?_
  obtain ⟨v9, e10, hf⟩ := zo_b_s hf
  refine zr_gR rfl rfl (by decide) rfl e10 ?_
  refine zq_wg 6 (pc' := 27) (lv' := [some (.ref a0), some (.int a1), some (.int a2), some (.int a3), some (.int a4), some (.int v2), some (.int v6)]) (st' := [.int a3, .int ((a1 + (4 : Int32)) + v2), .ref v9]) (h' := h5) rfl ?_
  obtain ⟨h11, e12, hf⟩ := zo_b_s hf
  refine zr_iast rfl e12 ?_
  refine zq_wg 1 (pc' := 30) (lv' := [some (.ref a0), some (.int a1), some (.int a2), some (.int a3), some (.int a4), some (.int v2), some (.int v6)]) (st' := [.int v6]) (h' := h11) rfl ?_
  obtain ⟨j45_18, hjj45_18, hf⟩ := zo_lj hf
  have kj45_18 : ∀ (x13 : Nat) (x14 : Int32) (x15 : Int32) (x16 : Int32) (x17 : Int32) (h18 : zH), j45_18 x13 x14 x15 x16 x17 h18 = some (ro_, ho_) → zq_wp sc (d + 1) 211 45 [some (.ref x13), some (.int x14), some (.int x15), some (.int x16), some (.int x17), none, none] [] h18 (none, ho_) := by
    intro x13 x14 x15 x16 x17 h18 hf
    rw [hjj45_18] at hf
    refine zq_wg 1 (pc' := 46) (lv' := [some (.ref x13), some (.int x14), some (.int x15), some (.int x16), some (.int x17), none, none]) (st' := [.ref x13]) (h' := h18) rfl ?_
    obtain ⟨v19, e20, hf⟩ := zo_b_s hf
    refine zr_gR rfl rfl (by decide) rfl e20 ?_
    refine zq_wg 6 (pc' := 56) (lv' := [some (.ref x13), some (.int x14), some (.int x15), some (.int x16), some (.int x17), none, none]) (st' := [.int ((x14 + (10 : Int32)) + x15), .ref v19, .int ((x14 + (10 : Int32)) + x15), .ref v19]) (h' := h18) rfl ?_
    obtain ⟨v21, e22, hf⟩ := zo_b_s hf
    refine zr_iald rfl e22 ?_
    refine zq_wg 2 (pc' := 60) (lv' := [some (.ref x13), some (.int x14), some (.int x15), some (.int x16), some (.int x17), none, none]) (st' := [.int (v21 + x17), .int ((x14 + (10 : Int32)) + x15), .ref v19]) (h' := h18) rfl ?_
    obtain ⟨h23, e24, hf⟩ := zo_b_s hf
    refine zr_iast rfl e24 ?_
    refine zq_wg 1 (pc' := 62) (lv' := [some (.ref x13), some (.int x14), some (.int x15), some (.int x16), some (.int x17), none, none]) (st' := [.ref x13]) (h' := h23) rfl ?_
    obtain ⟨v25, e26, hf⟩ := zo_b_s hf
    refine zr_gR rfl rfl (by decide) rfl e26 ?_
    refine zq_wg 6 (pc' := 72) (lv' := [some (.ref x13), some (.int x14), some (.int x15), some (.int x16), some (.int x17), none, none]) (st' := [.int ((x14 + (10 : Int32)) + x16), .ref v25, .int ((x14 + (10 : Int32)) + x16), .ref v25]) (h' := h23) rfl ?_
    obtain ⟨v27, e28, hf⟩ := zo_b_s hf
    refine zr_iald rfl e28 ?_
    refine zq_wg 2 (pc' := 76) (lv' := [some (.ref x13), some (.int x14), some (.int x15), some (.int x16), some (.int x17), none, none]) (st' := [.int (v27 - x17), .int ((x14 + (10 : Int32)) + x16), .ref v25]) (h' := h23) rfl ?_
    obtain ⟨h29, e30, hf⟩ := zo_b_s hf
    refine zr_iast rfl e30 ?_
    exact zr_rv rfl rfl hf
  refine zr_if (v6 < 0) 45 33 (st' := []) rfl rfl (fun b31 => ?_) (fun b31 => ?_)
  · have hf := zo_t hf b31
    refine zq_fg [some (.ref a0), some (.int a1), some (.int a2), some (.int a3), some (.int a4), none, none] (zq_lvle_s (zq_lvle_s (zq_lvle_s (zq_lvle_s (zq_lvle_s (zq_lvle_n (zq_lvle_n zq_lvle_nil))))))) ?_
    exact kj45_18 a0 a1 a2 a3 a4 h11 hf
  · have hf := zo_f hf b31
    refine zq_wg 1 (pc' := 34) (lv' := [some (.ref a0), some (.int a1), some (.int a2), some (.int a3), some (.int a4), some (.int v2), some (.int v6)]) (st' := [.ref a0]) (h' := h11) rfl ?_
    obtain ⟨v32, e33, hf⟩ := zo_b_s hf
    refine zr_gR rfl rfl (by decide) rfl e33 ?_
    refine zq_wg 6 (pc' := 44) (lv' := [some (.ref a0), some (.int a1), some (.int a2), some (.int a3), some (.int a4), some (.int v2), some (.int v6)]) (st' := [.int a2, .int ((a1 + (4 : Int32)) + v6), .ref v32]) (h' := h11) rfl ?_
    obtain ⟨h34, e35, hf⟩ := zo_b_s hf
    refine zr_iast rfl e35 ?_
    refine zq_fg [some (.ref a0), some (.int a1), some (.int a2), some (.int a3), some (.int a4), none, none] (zq_lvle_s (zq_lvle_s (zq_lvle_s (zq_lvle_s (zq_lvle_s (zq_lvle_n (zq_lvle_n zq_lvle_nil))))))) ?_
    exact kj45_18 a0 a1 a2 a3 a4 h34 hf
set_option maxRecDepth 4000 in
def zm_sell (sc : zX) (a0 : Nat) (a1 : Int32) (a2 : Int32) (a3 : Int32) (h : zH) : Option (Int32 × zH) := zo_b (zo_pI h 10 a0 0 (0 : Int32)) (fun h1 => zo_v h1 a0 10 (zm_isMan sc a0 a1 h1) (fun v4 h3 => if v4 = 0 then (some ((0 : Int32), h3)) else (zo_v h3 a0 10 (zm_isMan sc a0 a2 h3) (fun v9 h8 => if v9 = 0 then (some ((0 : Int32), h8)) else (zo_c (zm_within sc a3 (0 : Int32) (999 : Int32) h8) (fun v14 h13 => if v14 = 0 then (some ((0 : Int32), h13)) else (zo_v h13 a0 10 (zm_maySell sc a0 (0 : Int32) a1 a2 a3 h13) (fun v18 h17 => if v18 = 0 then (some ((0 : Int32), h17)) else (zo_v h17 a0 10 (zm_keeps sc a0 h17) (fun w23 h22 => zo_v h22 a0 10 (zm_sells sc a0 (0 : Int32) a1 a2 a3 h22) (fun w27 h26 => some ((1 : Int32), h26))))))))))))
set_option maxRecDepth 4000 in
theorem zm_sell_ok (sc : zX) (d : Nat) (hd : 3 ≤ d) {a0 : Nat} {a1 : Int32} {a2 : Int32} {a3 : Int32} {h : zH} {ro_ : Int32} {ho_ : zH} (hf : zm_sell sc a0 a1 a2 a3 h = some (ro_, ho_)) : zq_wm sc d 209 [.ref a0, .int a1, .int a2, .int a3] h (some (.int ro_), ho_) := by
  unfold zm_sell at hf
  obtain ⟨d, rfl⟩ : ∃ d', d = d' + 1 := ⟨d - 1, by omega⟩
  have hd : 2 ≤ d := by omega
  show zq_wp sc (d + 1) 209 0 [some (.ref a0), some (.int a1), some (.int a2), some (.int a3)] [] h _
  refine zq_wg 2 (pc' := 2) (lv' := [some (.ref a0), some (.int a1), some (.int a2), some (.int a3)]) (st' := [.int (0 : Int32), .ref a0]) (h' := h) rfl ?_
  obtain ⟨h1, e2, hf⟩ := zo_b_s hf
  refine zr_pI rfl rfl (by decide) rfl rfl e2 ?_
  refine zq_wg 2 (pc' := 7) (lv' := [some (.ref a0), some (.int a1), some (.int a2), some (.int a3)]) (st' := [.int a1, .ref a0]) (h' := h1) rfl ?_
  obtain ⟨e6, v4, h3, e5, hf⟩ := zo_v_s hf
  refine zr_cv zq_m198 [.int a1] [] rfl rfl rfl rfl rfl (Nat.le_of_ble_eq_true rfl) (Nat.le_of_ble_eq_true rfl) e6 (zm_isMan_ok sc d (by omega) e5) ?_
  refine zq_wg 0 (pc' := 10) (lv' := [some (.ref a0), some (.int a1), some (.int a2), some (.int a3)]) (st' := [.int v4]) (h' := h3) rfl ?_
  refine zr_if (v4 = 0) 43 13 (st' := []) rfl rfl (fun b7 => ?_) (fun b7 => ?_)
  · have hf := zo_t hf b7
    refine zq_wg 1 (pc' := 44) (lv' := [some (.ref a0), some (.int a1), some (.int a2), some (.int a3)]) (st' := [.int (0 : Int32)]) (h' := h3) rfl ?_
    exact zr_ri rfl rfl rfl hf
  · have hf := zo_f hf b7
    refine zq_wg 2 (pc' := 15) (lv' := [some (.ref a0), some (.int a1), some (.int a2), some (.int a3)]) (st' := [.int a2, .ref a0]) (h' := h3) rfl ?_
    obtain ⟨e11, v9, h8, e10, hf⟩ := zo_v_s hf
    refine zr_cv zq_m198 [.int a2] [] rfl rfl rfl rfl rfl (Nat.le_of_ble_eq_true rfl) (Nat.le_of_ble_eq_true rfl) e11 (zm_isMan_ok sc d (by omega) e10) ?_
    refine zq_wg 0 (pc' := 18) (lv' := [some (.ref a0), some (.int a1), some (.int a2), some (.int a3)]) (st' := [.int v9]) (h' := h8) rfl ?_
    refine zr_if (v9 = 0) 43 21 (st' := []) rfl rfl (fun b12 => ?_) (fun b12 => ?_)
    · have hf := zo_t hf b12
      refine zq_wg 1 (pc' := 44) (lv' := [some (.ref a0), some (.int a1), some (.int a2), some (.int a3)]) (st' := [.int (0 : Int32)]) (h' := h8) rfl ?_
      exact zr_ri rfl rfl rfl hf
    · have hf := zo_f hf b12
      refine zq_wg 3 (pc' := 26) (lv' := [some (.ref a0), some (.int a1), some (.int a2), some (.int a3)]) (st' := [.int (999 : Int32), .int (0 : Int32), .int a3]) (h' := h8) rfl ?_
      obtain ⟨v14, h13, e15, hf⟩ := zo_c_s hf
      refine zr_cs zq_m173 [.int a3, .int (0 : Int32), .int (999 : Int32)] [] rfl rfl (by decide) rfl rfl rfl (Nat.le_of_ble_eq_true rfl) (Nat.le_of_ble_eq_true rfl) (zm_within_ok sc d (by omega) e15) ?_
      refine zq_wg 0 (pc' := 29) (lv' := [some (.ref a0), some (.int a1), some (.int a2), some (.int a3)]) (st' := [.int v14]) (h' := h13) rfl ?_
      refine zr_if (v14 = 0) 43 32 (st' := []) rfl rfl (fun b16 => ?_) (fun b16 => ?_)
      · have hf := zo_t hf b16
        refine zq_wg 1 (pc' := 44) (lv' := [some (.ref a0), some (.int a1), some (.int a2), some (.int a3)]) (st' := [.int (0 : Int32)]) (h' := h13) rfl ?_
        exact zr_ri rfl rfl rfl hf
      · have hf := zo_f hf b16
        refine zq_wg 5 (pc' := 37) (lv' := [some (.ref a0), some (.int a1), some (.int a2), some (.int a3)]) (st' := [.int a3, .int a2, .int a1, .int (0 : Int32), .ref a0]) (h' := h13) rfl ?_
        obtain ⟨e20, v18, h17, e19, hf⟩ := zo_v_s hf
        refine zr_cv zq_m210 [.int (0 : Int32), .int a1, .int a2, .int a3] [] rfl rfl rfl rfl rfl (Nat.le_of_ble_eq_true rfl) (Nat.le_of_ble_eq_true rfl) e20 (zm_maySell_ok sc d (by omega) e19) ?_
        refine zq_wg 0 (pc' := 40) (lv' := [some (.ref a0), some (.int a1), some (.int a2), some (.int a3)]) (st' := [.int v18]) (h' := h17) rfl ?_
        refine zr_if (v18 = 0) 43 45 (st' := []) rfl rfl (fun b21 => ?_) (fun b21 => ?_)
        · have hf := zo_t hf b21
          refine zq_wg 1 (pc' := 44) (lv' := [some (.ref a0), some (.int a1), some (.int a2), some (.int a3)]) (st' := [.int (0 : Int32)]) (h' := h17) rfl ?_
          exact zr_ri rfl rfl rfl hf
        · have hf := zo_f hf b21
          refine zq_wg 1 (pc' := 46) (lv' := [some (.ref a0), some (.int a1), some (.int a2), some (.int a3)]) (st' := [.ref a0]) (h' := h17) rfl ?_
          obtain ⟨e25, w23, h22, e24, hf⟩ := zo_v_s hf
          refine zr_cv zq_m205 [] [] rfl rfl rfl rfl rfl (Nat.le_of_ble_eq_true rfl) (Nat.le_of_ble_eq_true rfl) e25 (zm_keeps_ok sc d (by omega) e24) ?_
          refine zq_wg 0 (pc' := 49) (lv' := [some (.ref a0), some (.int a1), some (.int a2), some (.int a3)]) (st' := []) (h' := h22) rfl ?_
          refine zq_wg 5 (pc' := 54) (lv' := [some (.ref a0), some (.int a1), some (.int a2), some (.int a3)]) (st' := [.int a3, .int a2, .int a1, .int (0 : Int32), .ref a0]) (h' := h22) rfl ?_
          obtain ⟨e29, w27, h26, e28, hf⟩ := zo_v_s hf
          refine zr_cv zq_m211 [.int (0 : Int32), .int a1, .int a2, .int a3] [] rfl rfl rfl rfl rfl (Nat.le_of_ble_eq_true rfl) (Nat.le_of_ble_eq_true rfl) e29 (zm_sells_ok sc d (by omega) e28) ?_
          refine zq_wg 0 (pc' := 57) (lv' := [some (.ref a0), some (.int a1), some (.int a2), some (.int a3)]) (st' := []) (h' := h26) rfl ?_
          refine zq_wg 1 (pc' := 58) (lv' := [some (.ref a0), some (.int a1), some (.int a2), some (.int a3)]) (st' := [.int (1 : Int32)]) (h' := h26) rfl ?_
          exact zr_ri rfl rfl rfl hf
set_option maxRecDepth 4000 in
def zm_order (sc : zX) (a0 : Nat) (a1 : Int32) (h : zH) : Option (Int32 × zH) := zo_b (zo_pI h 10 a0 0 (0 : Int32)) (fun h1 => zo_c (zm_within sc a1 (0 : Int32) (2 : Int32) h1) (fun v4 h3 => if v4 = 0 then (some ((0 : Int32), h3)) else (zo_b (zo_gR h3 10 a0 25) (fun v7 => zo_b (zq_rdI sc h3 v7 (2 : Int32)) (fun v9 => if v9 = a1 then (some ((0 : Int32), h3)) else (zo_v h3 a0 10 (zm_keeps sc a0 h3) (fun w13 h12 => zo_b (zo_gR h12 10 a0 25) (fun v16 => zo_b (zq_wrX 1 h12 v16 (2 : Int32) a1) (fun h18 => some ((1 : Int32), h18))))))))))
set_option maxRecDepth 4000 in
theorem zm_order_ok (sc : zX) (d : Nat) (hd : 2 ≤ d) {a0 : Nat} {a1 : Int32} {h : zH} {ro_ : Int32} {ho_ : zH} (hf : zm_order sc a0 a1 h = some (ro_, ho_)) : zq_wm sc d 212 [.ref a0, .int a1] h (some (.int ro_), ho_) := by
  unfold zm_order at hf
  obtain ⟨d, rfl⟩ : ∃ d', d = d' + 1 := ⟨d - 1, by omega⟩
  have hd : 1 ≤ d := by omega
  show zq_wp sc (d + 1) 212 0 [some (.ref a0), some (.int a1)] [] h _
  refine zq_wg 2 (pc' := 2) (lv' := [some (.ref a0), some (.int a1)]) (st' := [.int (0 : Int32), .ref a0]) (h' := h) rfl ?_
  obtain ⟨h1, e2, hf⟩ := zo_b_s hf
  refine zr_pI rfl rfl (by decide) rfl rfl e2 ?_
  refine zq_wg 3 (pc' := 8) (lv' := [some (.ref a0), some (.int a1)]) (st' := [.int (2 : Int32), .int (0 : Int32), .int a1]) (h' := h1) rfl ?_
  obtain ⟨v4, h3, e5, hf⟩ := zo_c_s hf
  refine zr_cs zq_m173 [.int a1, .int (0 : Int32), .int (2 : Int32)] [] rfl rfl (by decide) rfl rfl rfl (Nat.le_of_ble_eq_true rfl) (Nat.le_of_ble_eq_true rfl) (zm_within_ok sc d (by omega) e5) ?_
  refine zq_wg 0 (pc' := 11) (lv' := [some (.ref a0), some (.int a1)]) (st' := [.int v4]) (h' := h3) rfl ?_
  refine zr_if (v4 = 0) 24 14 (st' := []) rfl rfl (fun b6 => ?_) (fun b6 => ?_)
  · have hf := zo_t hf b6
    refine zq_wg 1 (pc' := 25) (lv' := [some (.ref a0), some (.int a1)]) (st' := [.int (0 : Int32)]) (h' := h3) rfl ?_
    exact zr_ri rfl rfl rfl hf
  · have hf := zo_f hf b6
    refine zq_wg 1 (pc' := 15) (lv' := [some (.ref a0), some (.int a1)]) (st' := [.ref a0]) (h' := h3) rfl ?_
    obtain ⟨v7, e8, hf⟩ := zo_b_s hf
    refine zr_gR rfl rfl (by decide) rfl e8 ?_
    refine zq_wg 1 (pc' := 19) (lv' := [some (.ref a0), some (.int a1)]) (st' := [.int (2 : Int32), .ref v7]) (h' := h3) rfl ?_
    obtain ⟨v9, e10, hf⟩ := zo_b_s hf
    refine zr_iald rfl e10 ?_
    refine zq_wg 1 (pc' := 21) (lv' := [some (.ref a0), some (.int a1)]) (st' := [.int a1, .int v9]) (h' := h3) rfl ?_
    refine zr_if (v9 = a1) 24 26 (st' := []) rfl rfl (fun b11 => ?_) (fun b11 => ?_)
    · have hf := zo_t hf b11
      refine zq_wg 1 (pc' := 25) (lv' := [some (.ref a0), some (.int a1)]) (st' := [.int (0 : Int32)]) (h' := h3) rfl ?_
      exact zr_ri rfl rfl rfl hf
    · have hf := zo_f hf b11
      refine zq_wg 1 (pc' := 27) (lv' := [some (.ref a0), some (.int a1)]) (st' := [.ref a0]) (h' := h3) rfl ?_
      obtain ⟨e15, w13, h12, e14, hf⟩ := zo_v_s hf
      refine zr_cv zq_m205 [] [] rfl rfl rfl rfl rfl (Nat.le_of_ble_eq_true rfl) (Nat.le_of_ble_eq_true rfl) e15 (zm_keeps_ok sc d (by omega) e14) ?_
      refine zq_wg 0 (pc' := 30) (lv' := [some (.ref a0), some (.int a1)]) (st' := []) (h' := h12) rfl ?_
      refine zq_wg 1 (pc' := 31) (lv' := [some (.ref a0), some (.int a1)]) (st' := [.ref a0]) (h' := h12) rfl ?_
      obtain ⟨v16, e17, hf⟩ := zo_b_s hf
      refine zr_gR rfl rfl (by decide) rfl e17 ?_
      refine zq_wg 2 (pc' := 36) (lv' := [some (.ref a0), some (.int a1)]) (st' := [.int a1, .int (2 : Int32), .ref v16]) (h' := h12) rfl ?_
      obtain ⟨h18, e19, hf⟩ := zo_b_s hf
      refine zr_iast rfl e19 ?_
      refine zq_wg 1 (pc' := 38) (lv' := [some (.ref a0), some (.int a1)]) (st' := [.int (1 : Int32)]) (h' := h18) rfl ?_
      exact zr_ri rfl rfl rfl hf
set_option maxRecDepth 4000 in
def zm_cells (sc : zX) (a0 : Nat) (h : zH) : Option (Int32 × zH) := zo_b (zo_gR h 10 a0 10) (fun v1 => zo_b (zq_rdI sc h v1 (2 : Int32)) (fun v3 => some (v3, h)))
set_option maxRecDepth 4000 in
theorem zm_cells_ok (sc : zX) (d : Nat) (hd : 0 ≤ d) {a0 : Nat} {h : zH} {ro_ : Int32} {ho_ : zH} (hf : zm_cells sc a0 h = some (ro_, ho_)) : zq_wm sc d 215 [.ref a0] h (some (.int ro_), ho_) := by
  unfold zm_cells at hf
  show zq_wp sc d 215 0 [some (.ref a0)] [] h _
  refine zq_wg 1 (pc' := 1) (lv' := [some (.ref a0)]) (st' := [.ref a0]) (h' := h) rfl ?_
  obtain ⟨v1, e2, hf⟩ := zo_b_s hf
  refine zr_gR rfl rfl (by decide) rfl e2 ?_
  refine zq_wg 1 (pc' := 5) (lv' := [some (.ref a0)]) (st' := [.int (2 : Int32), .ref v1]) (h' := h) rfl ?_
  obtain ⟨v3, e4, hf⟩ := zo_b_s hf
  refine zr_iald rfl e4 ?_
  exact zr_ri rfl rfl rfl hf
set_option maxRecDepth 4000 in
def zm_isEnd (sc : zX) (a0 : Nat) (a1 : Int32) (h : zH) : Option (Int32 × zH) := zo_l (fun  (h1 : zH) => some ((1 : Int32), h1)) (fun j12_1 => if a1 = 0 then (j12_1  h) else (zo_v h a0 10 (zm_cells sc a0 h) (fun v4 h3 => if a1 = v4 then (j12_1  h3) else (some ((0 : Int32), h3)))))
set_option maxRecDepth 4000 in
theorem zm_isEnd_ok (sc : zX) (d : Nat) (hd : 1 ≤ d) {a0 : Nat} {a1 : Int32} {h : zH} {ro_ : Int32} {ho_ : zH} (hf : zm_isEnd sc a0 a1 h = some (ro_, ho_)) : zq_wm sc d 214 [.ref a0, .int a1] h (some (.int ro_), ho_) := by
  unfold zm_isEnd at hf
  obtain ⟨d, rfl⟩ : ∃ d', d = d' + 1 := ⟨d - 1, by omega⟩
  have hd : 0 ≤ d := by omega
  show zq_wp sc (d + 1) 214 0 [some (.ref a0), some (.int a1)] [] h _
  refine zq_wg 1 (pc' := 1) (lv' := [some (.ref a0), some (.int a1)]) (st' := [.int a1]) (h' := h) rfl ?_
  obtain ⟨j12_1, hjj12_1, hf⟩ := zo_lj hf
  have kj12_1 : ∀  (h1 : zH), j12_1 h1 = some (ro_, ho_) → zq_wp sc (d + 1) 214 12 [none, none] [] h1 (some (.int ro_), ho_) := by
    intro h1 hf
    rw [hjj12_1] at hf
    refine zq_wg 2 (pc' := 17) (lv' := [none, none]) (st' := [.int (1 : Int32)]) (h' := h1) rfl ?_
    exact zr_ri rfl rfl rfl hf
  refine zr_if (a1 = 0) 12 4 (st' := []) rfl rfl (fun b2 => ?_) (fun b2 => ?_)
  · have hf := zo_t hf b2
    refine zq_fg [none, none] (zq_lvle_n (zq_lvle_n zq_lvle_nil)) ?_
    exact kj12_1  h hf
  · have hf := zo_f hf b2
    refine zq_wg 2 (pc' := 6) (lv' := [some (.ref a0), some (.int a1)]) (st' := [.ref a0, .int a1]) (h' := h) rfl ?_
    obtain ⟨e6, v4, h3, e5, hf⟩ := zo_v_s hf
    refine zr_cv zq_m215 [] [.int a1] rfl rfl rfl rfl rfl (Nat.le_of_ble_eq_true rfl) (Nat.le_of_ble_eq_true rfl) e6 (zm_cells_ok sc d (by omega) e5) ?_
    refine zq_wg 0 (pc' := 9) (lv' := [some (.ref a0), some (.int a1)]) (st' := [.int v4, .int a1]) (h' := h3) rfl ?_
    refine zr_if (a1 = v4) 12 16 (st' := []) rfl rfl (fun b7 => ?_) (fun b7 => ?_)
    · have hf := zo_t hf b7
      refine zq_fg [none, none] (zq_lvle_n (zq_lvle_n zq_lvle_nil)) ?_
      exact kj12_1  h3 hf
    · have hf := zo_f hf b7
      refine zq_wg 1 (pc' := 17) (lv' := [some (.ref a0), some (.int a1)]) (st' := [.int (0 : Int32)]) (h' := h3) rfl ?_
      exact zr_ri rfl rfl rfl hf
set_option maxRecDepth 4000 in
def zm_isOver (sc : zX) (a0 : Nat) (a1 : Int32) (h : zH) : Option (Int32 × zH) := zo_b (zo_gR h 10 a0 25) (fun v1 => zo_b (zq_rdI sc h v1 (a1 + (0 : Int32))) (fun v3 => if v3 ≤ 0 then (some ((0 : Int32), h)) else (zo_b (zo_gR h 10 a0 25) (fun v6 => zo_b (zq_rdI sc h v6 (a1 + (0 : Int32))) (fun v8 => zo_b (zo_gR h 10 a0 10) (fun v10 => zo_b (zq_rdI sc h v10 (5 : Int32)) (fun v12 => zo_b (zo_rm v8 v12) (fun v14 => if v14 = 0 then (zo_b (zo_gR h 10 a0 25) (fun v17 => zo_b (zq_rdI sc h v17 (a1 + (3 : Int32))) (fun v19 => zo_b (zo_gR h 10 a0 25) (fun v21 => zo_b (zq_rdI sc h v21 (a1 + (0 : Int32))) (fun v23 => if v19 = v23 then (some ((0 : Int32), h)) else (some ((1 : Int32), h))))))) else (some ((0 : Int32), h))))))))))
set_option maxRecDepth 4000 in
theorem zm_isOver_ok (sc : zX) (d : Nat) (hd : 0 ≤ d) {a0 : Nat} {a1 : Int32} {h : zH} {ro_ : Int32} {ho_ : zH} (hf : zm_isOver sc a0 a1 h = some (ro_, ho_)) : zq_wm sc d 216 [.ref a0, .int a1] h (some (.int ro_), ho_) := by
  unfold zm_isOver at hf
  show zq_wp sc d 216 0 [some (.ref a0), some (.int a1)] [] h _
  refine zq_wg 1 (pc' := 1) (lv' := [some (.ref a0), some (.int a1)]) (st' := [.ref a0]) (h' := h) rfl ?_
  obtain ⟨v1, e2, hf⟩ := zo_b_s hf
  refine zr_gR rfl rfl (by decide) rfl e2 ?_
  refine zq_wg 3 (pc' := 7) (lv' := [some (.ref a0), some (.int a1)]) (st' := [.int (a1 + (0 : Int32)), .ref v1]) (h' := h) rfl ?_
  obtain ⟨v3, e4, hf⟩ := zo_b_s hf
  refine zr_iald rfl e4 ?_
  refine zr_if (v3 ≤ 0) 52 11 (st' := []) rfl rfl (fun b5 => ?_) (fun b5 => ?_)
  · have hf := zo_t hf b5
    refine zq_wg 1 (pc' := 53) (lv' := [some (.ref a0), some (.int a1)]) (st' := [.int (0 : Int32)]) (h' := h) rfl ?_
    exact zr_ri rfl rfl rfl hf
  · have hf := zo_f hf b5
    refine zq_wg 1 (pc' := 12) (lv' := [some (.ref a0), some (.int a1)]) (st' := [.ref a0]) (h' := h) rfl ?_
    obtain ⟨v6, e7, hf⟩ := zo_b_s hf
    refine zr_gR rfl rfl (by decide) rfl e7 ?_
    refine zq_wg 3 (pc' := 18) (lv' := [some (.ref a0), some (.int a1)]) (st' := [.int (a1 + (0 : Int32)), .ref v6]) (h' := h) rfl ?_
    obtain ⟨v8, e9, hf⟩ := zo_b_s hf
    refine zr_iald rfl e9 ?_
    refine zq_wg 1 (pc' := 20) (lv' := [some (.ref a0), some (.int a1)]) (st' := [.ref a0, .int v8]) (h' := h) rfl ?_
    obtain ⟨v10, e11, hf⟩ := zo_b_s hf
    refine zr_gR rfl rfl (by decide) rfl e11 ?_
    refine zq_wg 1 (pc' := 24) (lv' := [some (.ref a0), some (.int a1)]) (st' := [.int (5 : Int32), .ref v10, .int v8]) (h' := h) rfl ?_
    obtain ⟨v12, e13, hf⟩ := zo_b_s hf
    refine zr_iald rfl e13 ?_
    obtain ⟨v14, e15, hf⟩ := zo_b_s hf
    refine zr_irem rfl e15 ?_
    refine zr_if (v14 = 0) 29 52 (st' := []) rfl rfl (fun b16 => ?_) (fun b16 => ?_)
    · have hf := zo_t hf b16
      refine zq_wg 1 (pc' := 30) (lv' := [some (.ref a0), some (.int a1)]) (st' := [.ref a0]) (h' := h) rfl ?_
      obtain ⟨v17, e18, hf⟩ := zo_b_s hf
      refine zr_gR rfl rfl (by decide) rfl e18 ?_
      refine zq_wg 3 (pc' := 36) (lv' := [some (.ref a0), some (.int a1)]) (st' := [.int (a1 + (3 : Int32)), .ref v17]) (h' := h) rfl ?_
      obtain ⟨v19, e20, hf⟩ := zo_b_s hf
      refine zr_iald rfl e20 ?_
      refine zq_wg 1 (pc' := 38) (lv' := [some (.ref a0), some (.int a1)]) (st' := [.ref a0, .int v19]) (h' := h) rfl ?_
      obtain ⟨v21, e22, hf⟩ := zo_b_s hf
      refine zr_gR rfl rfl (by decide) rfl e22 ?_
      refine zq_wg 3 (pc' := 44) (lv' := [some (.ref a0), some (.int a1)]) (st' := [.int (a1 + (0 : Int32)), .ref v21, .int v19]) (h' := h) rfl ?_
      obtain ⟨v23, e24, hf⟩ := zo_b_s hf
      refine zr_iald rfl e24 ?_
      refine zr_if (v19 = v23) 52 48 (st' := []) rfl rfl (fun b25 => ?_) (fun b25 => ?_)
      · have hf := zo_t hf b25
        refine zq_wg 1 (pc' := 53) (lv' := [some (.ref a0), some (.int a1)]) (st' := [.int (0 : Int32)]) (h' := h) rfl ?_
        exact zr_ri rfl rfl rfl hf
      · have hf := zo_f hf b25
        refine zq_wg 2 (pc' := 53) (lv' := [some (.ref a0), some (.int a1)]) (st' := [.int (1 : Int32)]) (h' := h) rfl ?_
        exact zr_ri rfl rfl rfl hf
    · have hf := zo_f hf b16
      refine zq_wg 1 (pc' := 53) (lv' := [some (.ref a0), some (.int a1)]) (st' := [.int (0 : Int32)]) (h' := h) rfl ?_
      exact zr_ri rfl rfl rfl hf
set_option maxRecDepth 4000 in
def zm_goesBy (sc : zX) (a0 : Nat) (a1 : Int32) (a2 : Int32) (a3 : Int32) (h : zH) : Option (Int32 × zH) := zo_b (zo_gR h 10 a0 23) (fun v1 => zo_b (zq_wrX 1 h v1 (4 : Int32) a1) (fun h3 => zo_b (zo_gR h3 10 a0 23) (fun v5 => zo_b (zq_wrX 1 h3 v5 (5 : Int32) a2) (fun h7 => zo_b (zo_gR h7 10 a0 23) (fun v9 => zo_b (zq_wrX 1 h7 v9 (6 : Int32) a3) (fun h11 => zo_l (if a3 = (2 : Int32) then (-1 : Int32) else (if a3 = (1 : Int32) then (if a1 ≤ a2 then (if a2 ≤ a1 then (0 : Int32) else (-1 : Int32)) else (1 : Int32)) else (if a2 ≤ ((2 : Int32) * a1) then (0 : Int32) else (-1 : Int32)))) (fun (x13 : Int32) => zo_b (zo_gR h11 10 a0 10) (fun v14 => zo_b (zq_rdI sc h11 v14 (9 : Int32)) (fun v16 => zo_l (fun (x18 : Int32) (h19 : zH) => if (-3 : Int32) ≤ x18 then (if x18 ≤ (3 : Int32) then (some (x18, h19)) else (some ((3 : Int32), h19))) else (some ((-3 : Int32), h19))) (fun j98_19 => if 0 ≤ v16 then (zo_b (zo_gR h11 10 a0 10) (fun v23 => zo_b (zq_rdI sc h11 v23 (9 : Int32)) (fun v25 => zo_v h11 a0 10 (zm_worthAt sc a0 v25 h11) (fun v28 h27 => j98_19 v28 h27)))) else (j98_19 x13 h11)))))))))))
set_option maxRecDepth 4000 in
theorem zm_goesBy_ok (sc : zX) (d : Nat) (hd : 2 ≤ d) {a0 : Nat} {a1 : Int32} {a2 : Int32} {a3 : Int32} {h : zH} {ro_ : Int32} {ho_ : zH} (hf : zm_goesBy sc a0 a1 a2 a3 h = some (ro_, ho_)) : zq_wm sc d 218 [.ref a0, .int a1, .int a2, .int a3] h (some (.int ro_), ho_) := by
  unfold zm_goesBy at hf
  obtain ⟨d, rfl⟩ : ∃ d', d = d' + 1 := ⟨d - 1, by omega⟩
  have hd : 1 ≤ d := by omega
  show zq_wp sc (d + 1) 218 0 [some (.ref a0), some (.int a1), some (.int a2), some (.int a3), none] [] h _
  refine zq_wg 1 (pc' := 1) (lv' := [some (.ref a0), some (.int a1), some (.int a2), some (.int a3), none]) (st' := [.ref a0]) (h' := h) rfl ?_
  obtain ⟨v1, e2, hf⟩ := zo_b_s hf
  refine zr_gR rfl rfl (by decide) rfl e2 ?_
  refine zq_wg 2 (pc' := 6) (lv' := [some (.ref a0), some (.int a1), some (.int a2), some (.int a3), none]) (st' := [.int a1, .int (4 : Int32), .ref v1]) (h' := h) rfl ?_
  obtain ⟨h3, e4, hf⟩ := zo_b_s hf
  refine zr_iast rfl e4 ?_
  refine zq_wg 1 (pc' := 8) (lv' := [some (.ref a0), some (.int a1), some (.int a2), some (.int a3), none]) (st' := [.ref a0]) (h' := h3) rfl ?_
  obtain ⟨v5, e6, hf⟩ := zo_b_s hf
  refine zr_gR rfl rfl (by decide) rfl e6 ?_
  refine zq_wg 2 (pc' := 13) (lv' := [some (.ref a0), some (.int a1), some (.int a2), some (.int a3), none]) (st' := [.int a2, .int (5 : Int32), .ref v5]) (h' := h3) rfl ?_
  obtain ⟨h7, e8, hf⟩ := zo_b_s hf
  refine zr_iast rfl e8 ?_
  refine zq_wg 1 (pc' := 15) (lv' := [some (.ref a0), some (.int a1), some (.int a2), some (.int a3), none]) (st' := [.ref a0]) (h' := h7) rfl ?_
  obtain ⟨v9, e10, hf⟩ := zo_b_s hf
  refine zr_gR rfl rfl (by decide) rfl e10 ?_
  refine zq_wg 2 (pc' := 21) (lv' := [some (.ref a0), some (.int a1), some (.int a2), some (.int a3), none]) (st' := [.int a3, .int (6 : Int32), .ref v9]) (h' := h7) rfl ?_
  obtain ⟨h11, e12, hf⟩ := zo_b_s hf
  refine zr_iast rfl e12 ?_
  refine zq_wg 2 (pc' := 24) (lv' := [some (.ref a0), some (.int a1), some (.int a2), some (.int a3), none]) (st' := [.int (2 : Int32), .int a3]) (h' := h11) rfl ?_
  obtain ⟨g70_13, hg70_13, hf⟩ := zo_lx hf
  have kg70_13 : ∀ (x13 : Int32), g70_13 x13 = some (ro_, ho_) → zq_wp sc (d + 1) 218 70 [some (.ref a0), some (.int a1), some (.int a2), some (.int a3), none] [.int x13] h11 (some (.int ro_), ho_) := by
    intro x13 hf
    rw [hg70_13] at hf
    refine zq_wg 2 (pc' := 73) (lv' := [some (.ref a0), some (.int a1), some (.int a2), some (.int a3), some (.int x13)]) (st' := [.ref a0]) (h' := h11) rfl ?_
    obtain ⟨v14, e15, hf⟩ := zo_b_s hf
    refine zr_gR rfl rfl (by decide) rfl e15 ?_
    refine zq_wg 1 (pc' := 78) (lv' := [some (.ref a0), some (.int a1), some (.int a2), some (.int a3), some (.int x13)]) (st' := [.int (9 : Int32), .ref v14]) (h' := h11) rfl ?_
    obtain ⟨v16, e17, hf⟩ := zo_b_s hf
    refine zr_iald rfl e17 ?_
    obtain ⟨j98_19, hjj98_19, hf⟩ := zo_lj hf
    have kj98_19 : ∀ (x18 : Int32) (h19 : zH), j98_19 x18 h19 = some (ro_, ho_) → zq_wp sc (d + 1) 218 98 [none, none, none, none, none] [.int x18] h19 (some (.int ro_), ho_) := by
      intro x18 h19 hf
      rw [hjj98_19] at hf
      refine zq_wg 3 (pc' := 104) (lv' := [none, none, none, none, some (.int x18)]) (st' := [.int (-3 : Int32), .int x18]) (h' := h19) rfl ?_
      refine zr_if ((-3 : Int32) ≤ x18) 112 107 (st' := []) rfl rfl (fun b20 => ?_) (fun b20 => ?_)
      · have hf := zo_t hf b20
        refine zq_wg 2 (pc' := 115) (lv' := [none, none, none, none, some (.int x18)]) (st' := [.int (3 : Int32), .int x18]) (h' := h19) rfl ?_
        refine zr_if (x18 ≤ (3 : Int32)) 122 118 (st' := []) rfl rfl (fun b21 => ?_) (fun b21 => ?_)
        · have hf := zo_t hf b21
          refine zq_wg 1 (pc' := 124) (lv' := [none, none, none, none, some (.int x18)]) (st' := [.int x18]) (h' := h19) rfl ?_
          exact zr_ri rfl rfl rfl hf
        · have hf := zo_f hf b21
          refine zq_wg 2 (pc' := 124) (lv' := [none, none, none, none, some (.int x18)]) (st' := [.int (3 : Int32)]) (h' := h19) rfl ?_
          exact zr_ri rfl rfl rfl hf
      · have hf := zo_f hf b20
        refine zq_wg 2 (pc' := 124) (lv' := [none, none, none, none, some (.int x18)]) (st' := [.int (-3 : Int32)]) (h' := h19) rfl ?_
        exact zr_ri rfl rfl rfl hf
    refine zr_if (0 ≤ v16) 87 82 (st' := []) rfl rfl (fun b22 => ?_) (fun b22 => ?_)
    · have hf := zo_t hf b22
      refine zq_wg 2 (pc' := 89) (lv' := [some (.ref a0), some (.int a1), some (.int a2), some (.int a3), some (.int x13)]) (st' := [.ref a0, .ref a0]) (h' := h11) rfl ?_
      obtain ⟨v23, e24, hf⟩ := zo_b_s hf
      refine zr_gR rfl rfl (by decide) rfl e24 ?_
      refine zq_wg 1 (pc' := 94) (lv' := [some (.ref a0), some (.int a1), some (.int a2), some (.int a3), some (.int x13)]) (st' := [.int (9 : Int32), .ref v23, .ref a0]) (h' := h11) rfl ?_
      obtain ⟨v25, e26, hf⟩ := zo_b_s hf
      refine zr_iald rfl e26 ?_
      obtain ⟨e30, v28, h27, e29, hf⟩ := zo_v_s hf
      refine zr_cv zq_m194 [.int v25] [] rfl rfl rfl rfl rfl (Nat.le_of_ble_eq_true rfl) (Nat.le_of_ble_eq_true rfl) e30 (zm_worthAt_ok sc d (by omega) e29) ?_
      refine zq_wg 0 (pc' := 98) (lv' := [some (.ref a0), some (.int a1), some (.int a2), some (.int a3), some (.int x13)]) (st' := [.int v28]) (h' := h27) rfl ?_
      refine zq_fg [none, none, none, none, none] (zq_lvle_n (zq_lvle_n (zq_lvle_n (zq_lvle_n (zq_lvle_n zq_lvle_nil))))) ?_
      exact kj98_19 v28 h27 hf
    · have hf := zo_f hf b22
      refine zq_wg 2 (pc' := 98) (lv' := [some (.ref a0), some (.int a1), some (.int a2), some (.int a3), some (.int x13)]) (st' := [.int x13]) (h' := h11) rfl ?_
      refine zq_fg [none, none, none, none, none] (zq_lvle_n (zq_lvle_n (zq_lvle_n (zq_lvle_n (zq_lvle_n zq_lvle_nil))))) ?_
      exact kj98_19 x13 h11 hf
  refine zr_if (a3 = (2 : Int32)) 27 31 (st' := []) rfl rfl (fun b31 => ?_) (fun b31 => ?_)
  · have hf := zo_lt hf b31
    refine zq_wg 2 (pc' := 70) (lv' := [some (.ref a0), some (.int a1), some (.int a2), some (.int a3), none]) (st' := [.int (-1 : Int32)]) (h' := h11) rfl ?_
    exact kg70_13 _ hf
  · have hf := zo_lf hf b31
    refine zq_wg 2 (pc' := 33) (lv' := [some (.ref a0), some (.int a1), some (.int a2), some (.int a3), none]) (st' := [.int (1 : Int32), .int a3]) (h' := h11) rfl ?_
    refine zr_if (a3 = (1 : Int32)) 36 58 (st' := []) rfl rfl (fun b32 => ?_) (fun b32 => ?_)
    · have hf := zo_lt hf b32
      refine zq_wg 2 (pc' := 38) (lv' := [some (.ref a0), some (.int a1), some (.int a2), some (.int a3), none]) (st' := [.int a2, .int a1]) (h' := h11) rfl ?_
      refine zr_if (a1 ≤ a2) 45 41 (st' := []) rfl rfl (fun b33 => ?_) (fun b33 => ?_)
      · have hf := zo_lt hf b33
        refine zq_wg 2 (pc' := 47) (lv' := [some (.ref a0), some (.int a1), some (.int a2), some (.int a3), none]) (st' := [.int a2, .int a1]) (h' := h11) rfl ?_
        refine zr_if (a2 ≤ a1) 54 50 (st' := []) rfl rfl (fun b34 => ?_) (fun b34 => ?_)
        · have hf := zo_lt hf b34
          refine zq_wg 2 (pc' := 70) (lv' := [some (.ref a0), some (.int a1), some (.int a2), some (.int a3), none]) (st' := [.int (0 : Int32)]) (h' := h11) rfl ?_
          exact kg70_13 _ hf
        · have hf := zo_lf hf b34
          refine zq_wg 2 (pc' := 70) (lv' := [some (.ref a0), some (.int a1), some (.int a2), some (.int a3), none]) (st' := [.int (-1 : Int32)]) (h' := h11) rfl ?_
          exact kg70_13 _ hf
      · have hf := zo_lf hf b33
        refine zq_wg 2 (pc' := 70) (lv' := [some (.ref a0), some (.int a1), some (.int a2), some (.int a3), none]) (st' := [.int (1 : Int32)]) (h' := h11) rfl ?_
        exact kg70_13 _ hf
    · have hf := zo_lf hf b32
      refine zq_wg 4 (pc' := 62) (lv' := [some (.ref a0), some (.int a1), some (.int a2), some (.int a3), none]) (st' := [.int a2, .int ((2 : Int32) * a1)]) (h' := h11) rfl ?_
      refine zr_if (a2 ≤ ((2 : Int32) * a1)) 69 65 (st' := []) rfl rfl (fun b35 => ?_) (fun b35 => ?_)
      · have hf := zo_lt hf b35
        refine zq_wg 1 (pc' := 70) (lv' := [some (.ref a0), some (.int a1), some (.int a2), some (.int a3), none]) (st' := [.int (0 : Int32)]) (h' := h11) rfl ?_
        exact kg70_13 _ hf
      · have hf := zo_lf hf b35
        refine zq_wg 2 (pc' := 70) (lv' := [some (.ref a0), some (.int a1), some (.int a2), some (.int a3), none]) (st' := [.int (-1 : Int32)]) (h' := h11) rfl ?_
        exact kg70_13 _ hf
set_option maxRecDepth 4000 in
def zm_bounded (sc : zX) (a0 : Nat) (a1 : Int32) (h : zH) : Option (Int32 × zH) := if 0 ≤ a1 then (zo_v h a0 10 (zm_cells sc a0 h) (fun v3 h2 => if a1 ≤ v3 then (some (a1, h2)) else (zo_v h2 a0 10 (zm_cells sc a0 h2) (fun v8 h7 => some (v8, h7))))) else (some ((0 : Int32), h))
set_option maxRecDepth 4000 in
theorem zm_bounded_ok (sc : zX) (d : Nat) (hd : 1 ≤ d) {a0 : Nat} {a1 : Int32} {h : zH} {ro_ : Int32} {ho_ : zH} (hf : zm_bounded sc a0 a1 h = some (ro_, ho_)) : zq_wm sc d 219 [.ref a0, .int a1] h (some (.int ro_), ho_) := by
  unfold zm_bounded at hf
  obtain ⟨d, rfl⟩ : ∃ d', d = d' + 1 := ⟨d - 1, by omega⟩
  have hd : 0 ≤ d := by omega
  show zq_wp sc (d + 1) 219 0 [some (.ref a0), some (.int a1)] [] h _
  refine zq_wg 1 (pc' := 1) (lv' := [some (.ref a0), some (.int a1)]) (st' := [.int a1]) (h' := h) rfl ?_
  refine zr_if (0 ≤ a1) 8 4 (st' := []) rfl rfl (fun b1 => ?_) (fun b1 => ?_)
  · have hf := zo_t hf b1
    refine zq_wg 2 (pc' := 10) (lv' := [some (.ref a0), some (.int a1)]) (st' := [.ref a0, .int a1]) (h' := h) rfl ?_
    obtain ⟨e5, v3, h2, e4, hf⟩ := zo_v_s hf
    refine zr_cv zq_m215 [] [.int a1] rfl rfl rfl rfl rfl (Nat.le_of_ble_eq_true rfl) (Nat.le_of_ble_eq_true rfl) e5 (zm_cells_ok sc d (by omega) e4) ?_
    refine zq_wg 0 (pc' := 13) (lv' := [some (.ref a0), some (.int a1)]) (st' := [.int v3, .int a1]) (h' := h2) rfl ?_
    refine zr_if (a1 ≤ v3) 23 16 (st' := []) rfl rfl (fun b6 => ?_) (fun b6 => ?_)
    · have hf := zo_t hf b6
      refine zq_wg 1 (pc' := 24) (lv' := [some (.ref a0), some (.int a1)]) (st' := [.int a1]) (h' := h2) rfl ?_
      exact zr_ri rfl rfl rfl hf
    · have hf := zo_f hf b6
      refine zq_wg 1 (pc' := 17) (lv' := [some (.ref a0), some (.int a1)]) (st' := [.ref a0]) (h' := h2) rfl ?_
      obtain ⟨e10, v8, h7, e9, hf⟩ := zo_v_s hf
      refine zr_cv zq_m215 [] [] rfl rfl rfl rfl rfl (Nat.le_of_ble_eq_true rfl) (Nat.le_of_ble_eq_true rfl) e10 (zm_cells_ok sc d (by omega) e9) ?_
      refine zq_wg 0 (pc' := 20) (lv' := [some (.ref a0), some (.int a1)]) (st' := [.int v8]) (h' := h7) rfl ?_
      refine zq_wg 1 (pc' := 24) (lv' := [some (.ref a0), some (.int a1)]) (st' := [.int v8]) (h' := h7) rfl ?_
      exact zr_ri rfl rfl rfl hf
  · have hf := zo_f hf b1
    refine zq_wg 2 (pc' := 24) (lv' := [some (.ref a0), some (.int a1)]) (st' := [.int (0 : Int32)]) (h' := h) rfl ?_
    exact zr_ri rfl rfl rfl hf
set_option maxRecDepth 4000 in
def zm_passes_l9 (sc : zX) : Nat → Nat → Int32 → Int32 → Int32 → Int32 → zH → Option (Int32 × zH)
  | 0, _, _, _, _, _, _ => none
  | n + 1, y5, y6, y7, y8, y9, h10 => if y7 ≤ y8 then (some (y8, h10)) else (zo_b (zo_gR h10 10 y5 25) (fun v12 => zo_b (zq_rdI sc h10 v12 (y6 + (1 : Int32))) (fun v14 => zo_v h10 y5 10 (zm_isEnd sc y5 v14 h10) (fun v17 h16 => if v17 = 0 then (zo_v h16 y5 10 (zm_isOver sc y5 y6 h16) (fun v22 h21 => if v22 = 0 then (zo_b (zo_gR h21 10 y5 25) (fun v26 => zo_b (zo_gR h21 10 y5 25) (fun v28 => zo_b (zq_rdI sc h21 v28 (y6 + (1 : Int32))) (fun v30 => zo_b (zo_gR h21 10 y5 10) (fun v32 => zo_b (zq_rdI sc h21 v32 (4 : Int32)) (fun v34 => zo_b (zo_gR h21 10 y5 25) (fun v36 => zo_b (zq_rdI sc h21 v36 (y6 + (2 : Int32))) (fun v38 => zo_v h21 y5 10 (zm_goesBy sc y5 y9 v34 v38 h21) (fun v41 h40 => zo_v h40 y5 10 (zm_bounded sc y5 (v30 + v41) h40) (fun v45 h44 => zo_b (zq_wrX 1 h44 v26 (y6 + (1 : Int32)) v45) (fun h48 => zo_b (zo_gR h48 10 y5 25) (fun v50 => zo_b (zq_rdI sc h48 v50 (y6 + (0 : Int32))) (fun v52 => zo_b (zq_wrX 1 h48 v50 (y6 + (0 : Int32)) (v52 + (1 : Int32))) (fun h54 => zm_passes_l9 sc n y5 y6 y7 (y8 + (1 : Int32)) y9 h54 )))))))))))))) else (some (y8, h21)))) else (some (y8, h16))))))
set_option maxRecDepth 4000 in
def zm_passes (sc : zX) (a0 : Nat) (a1 : Int32) (a2 : Int32) (h : zH) : Option (Int32 × zH) := zo_v h a0 10 (zm_oursOf sc a0 a1 h) (fun v2 h1 => zm_passes_l9 sc zo_F a0 a1 a2 (0 : Int32) v2 h1 )
set_option maxRecDepth 4000 in
theorem zm_passes_l9_ok (sc : zX) (d : Nat) (hd : 5 ≤ d) : ∀ (n : Nat) (y5 : Nat) (y6 : Int32) (y7 : Int32) (y8 : Int32) (y9 : Int32) (h10 : zH) (ro_ : Int32) (ho_ : zH),  zm_passes_l9 sc n y5 y6 y7 y8 y9 h10  = some (ro_, ho_) → zq_wp sc (d + 1) 217 9 [some (.ref y5), some (.int y6), some (.int y7), some (.int y8), some (.int y9)] [] h10 (some (.int ro_), ho_) := by
  intro n
  induction n with
  | zero => intro y5 y6 y7 y8 y9 h10 ro_ ho_ hf; cases hf
  | succ n ih =>
    intro y5 y6 y7 y8 y9 h10 ro_ ho_ hf
    refine zq_wg 2 (pc' := 11) (lv' := [some (.ref y5), some (.int y6), some (.int y7), some (.int y8), some (.int y9)]) (st' := [.int y7, .int y8]) (h' := h10) rfl ?_
    refine zr_if (y7 ≤ y8) 96 14 (st' := []) rfl rfl (fun b11 => ?_) (fun b11 => ?_)
    · have hf := zo_t hf b11
      refine zq_wg 1 (pc' := 97) (lv' := [some (.ref y5), some (.int y6), some (.int y7), some (.int y8), some (.int y9)]) (st' := [.int y8]) (h' := h10) rfl ?_
      exact zr_ri rfl rfl rfl hf
    · have hf := zo_f hf b11
      refine zq_wg 2 (pc' := 16) (lv' := [some (.ref y5), some (.int y6), some (.int y7), some (.int y8), some (.int y9)]) (st' := [.ref y5, .ref y5]) (h' := h10) rfl ?_
      obtain ⟨v12, e13, hf⟩ := zo_b_s hf
      refine zr_gR rfl rfl (by decide) rfl e13 ?_
      refine zq_wg 3 (pc' := 22) (lv' := [some (.ref y5), some (.int y6), some (.int y7), some (.int y8), some (.int y9)]) (st' := [.int (y6 + (1 : Int32)), .ref v12, .ref y5]) (h' := h10) rfl ?_
      obtain ⟨v14, e15, hf⟩ := zo_b_s hf
      refine zr_iald rfl e15 ?_
      obtain ⟨e19, v17, h16, e18, hf⟩ := zo_v_s hf
      refine zr_cv zq_m214 [.int v14] [] rfl rfl rfl rfl rfl (Nat.le_of_ble_eq_true rfl) (Nat.le_of_ble_eq_true rfl) e19 (zm_isEnd_ok sc d (by omega) e18) ?_
      refine zq_wg 0 (pc' := 26) (lv' := [some (.ref y5), some (.int y6), some (.int y7), some (.int y8), some (.int y9)]) (st' := [.int v17]) (h' := h16) rfl ?_
      refine zr_if (v17 = 0) 29 96 (st' := []) rfl rfl (fun b20 => ?_) (fun b20 => ?_)
      · have hf := zo_t hf b20
        refine zq_wg 2 (pc' := 31) (lv' := [some (.ref y5), some (.int y6), some (.int y7), some (.int y8), some (.int y9)]) (st' := [.int y6, .ref y5]) (h' := h16) rfl ?_
        obtain ⟨e24, v22, h21, e23, hf⟩ := zo_v_s hf
        refine zr_cv zq_m216 [.int y6] [] rfl rfl rfl rfl rfl (Nat.le_of_ble_eq_true rfl) (Nat.le_of_ble_eq_true rfl) e24 (zm_isOver_ok sc d (by omega) e23) ?_
        refine zq_wg 0 (pc' := 34) (lv' := [some (.ref y5), some (.int y6), some (.int y7), some (.int y8), some (.int y9)]) (st' := [.int v22]) (h' := h21) rfl ?_
        refine zr_if (v22 = 0) 37 96 (st' := []) rfl rfl (fun b25 => ?_) (fun b25 => ?_)
        · have hf := zo_t hf b25
          refine zq_wg 1 (pc' := 38) (lv' := [some (.ref y5), some (.int y6), some (.int y7), some (.int y8), some (.int y9)]) (st' := [.ref y5]) (h' := h21) rfl ?_
          obtain ⟨v26, e27, hf⟩ := zo_b_s hf
          refine zr_gR rfl rfl (by decide) rfl e27 ?_
          refine zq_wg 5 (pc' := 46) (lv' := [some (.ref y5), some (.int y6), some (.int y7), some (.int y8), some (.int y9)]) (st' := [.ref y5, .ref y5, .int (y6 + (1 : Int32)), .ref v26]) (h' := h21) rfl ?_
          obtain ⟨v28, e29, hf⟩ := zo_b_s hf
          refine zr_gR rfl rfl (by decide) rfl e29 ?_
          refine zq_wg 3 (pc' := 52) (lv' := [some (.ref y5), some (.int y6), some (.int y7), some (.int y8), some (.int y9)]) (st' := [.int (y6 + (1 : Int32)), .ref v28, .ref y5, .int (y6 + (1 : Int32)), .ref v26]) (h' := h21) rfl ?_
          obtain ⟨v30, e31, hf⟩ := zo_b_s hf
          refine zr_iald rfl e31 ?_
          refine zq_wg 3 (pc' := 57) (lv' := [some (.ref y5), some (.int y6), some (.int y7), some (.int y8), some (.int y9)]) (st' := [.ref y5, .int y9, .ref y5, .int v30, .ref y5, .int (y6 + (1 : Int32)), .ref v26]) (h' := h21) rfl ?_
          obtain ⟨v32, e33, hf⟩ := zo_b_s hf
          refine zr_gR rfl rfl (by decide) rfl e33 ?_
          refine zq_wg 1 (pc' := 61) (lv' := [some (.ref y5), some (.int y6), some (.int y7), some (.int y8), some (.int y9)]) (st' := [.int (4 : Int32), .ref v32, .int y9, .ref y5, .int v30, .ref y5, .int (y6 + (1 : Int32)), .ref v26]) (h' := h21) rfl ?_
          obtain ⟨v34, e35, hf⟩ := zo_b_s hf
          refine zr_iald rfl e35 ?_
          refine zq_wg 1 (pc' := 63) (lv' := [some (.ref y5), some (.int y6), some (.int y7), some (.int y8), some (.int y9)]) (st' := [.ref y5, .int v34, .int y9, .ref y5, .int v30, .ref y5, .int (y6 + (1 : Int32)), .ref v26]) (h' := h21) rfl ?_
          obtain ⟨v36, e37, hf⟩ := zo_b_s hf
          refine zr_gR rfl rfl (by decide) rfl e37 ?_
          refine zq_wg 3 (pc' := 69) (lv' := [some (.ref y5), some (.int y6), some (.int y7), some (.int y8), some (.int y9)]) (st' := [.int (y6 + (2 : Int32)), .ref v36, .int v34, .int y9, .ref y5, .int v30, .ref y5, .int (y6 + (1 : Int32)), .ref v26]) (h' := h21) rfl ?_
          obtain ⟨v38, e39, hf⟩ := zo_b_s hf
          refine zr_iald rfl e39 ?_
          obtain ⟨e43, v41, h40, e42, hf⟩ := zo_v_s hf
          refine zr_cv zq_m218 [.int y9, .int v34, .int v38] [.int v30, .ref y5, .int (y6 + (1 : Int32)), .ref v26] rfl rfl rfl rfl rfl (Nat.le_of_ble_eq_true rfl) (Nat.le_of_ble_eq_true rfl) e43 (zm_goesBy_ok sc d (by omega) e42) ?_
          refine zq_wg 0 (pc' := 73) (lv' := [some (.ref y5), some (.int y6), some (.int y7), some (.int y8), some (.int y9)]) (st' := [.int v41, .int v30, .ref y5, .int (y6 + (1 : Int32)), .ref v26]) (h' := h40) rfl ?_
          refine zq_wg 1 (pc' := 74) (lv' := [some (.ref y5), some (.int y6), some (.int y7), some (.int y8), some (.int y9)]) (st' := [.int (v30 + v41), .ref y5, .int (y6 + (1 : Int32)), .ref v26]) (h' := h40) rfl ?_
          obtain ⟨e47, v45, h44, e46, hf⟩ := zo_v_s hf
          refine zr_cv zq_m219 [.int (v30 + v41)] [.int (y6 + (1 : Int32)), .ref v26] rfl rfl rfl rfl rfl (Nat.le_of_ble_eq_true rfl) (Nat.le_of_ble_eq_true rfl) e47 (zm_bounded_ok sc d (by omega) e46) ?_
          refine zq_wg 0 (pc' := 77) (lv' := [some (.ref y5), some (.int y6), some (.int y7), some (.int y8), some (.int y9)]) (st' := [.int v45, .int (y6 + (1 : Int32)), .ref v26]) (h' := h44) rfl ?_
          obtain ⟨h48, e49, hf⟩ := zo_b_s hf
          refine zr_iast rfl e49 ?_
          refine zq_wg 1 (pc' := 79) (lv' := [some (.ref y5), some (.int y6), some (.int y7), some (.int y8), some (.int y9)]) (st' := [.ref y5]) (h' := h48) rfl ?_
          obtain ⟨v50, e51, hf⟩ := zo_b_s hf
          refine zr_gR rfl rfl (by decide) rfl e51 ?_
          refine zq_wg 4 (pc' := 86) (lv' := [some (.ref y5), some (.int y6), some (.int y7), some (.int y8), some (.int y9)]) (st' := [.int (y6 + (0 : Int32)), .ref v50, .int (y6 + (0 : Int32)), .ref v50]) (h' := h48) rfl ?_
          obtain ⟨v52, e53, hf⟩ := zo_b_s hf
          refine zr_iald rfl e53 ?_
          refine zq_wg 2 (pc' := 89) (lv' := [some (.ref y5), some (.int y6), some (.int y7), some (.int y8), some (.int y9)]) (st' := [.int (v52 + (1 : Int32)), .int (y6 + (0 : Int32)), .ref v50]) (h' := h48) rfl ?_
          obtain ⟨h54, e55, hf⟩ := zo_b_s hf
          refine zr_iast rfl e55 ?_
          refine zq_wg 2 (pc' := 9) (lv' := [some (.ref y5), some (.int y6), some (.int y7), some (.int (y8 + (1 : Int32))), some (.int y9)]) (st' := []) (h' := h54) rfl ?_
          exact ih y5 y6 y7 (y8 + (1 : Int32)) y9 h54 _ _ hf
        · have hf := zo_f hf b25
          refine zq_wg 1 (pc' := 97) (lv' := [some (.ref y5), some (.int y6), some (.int y7), some (.int y8), some (.int y9)]) (st' := [.int y8]) (h' := h21) rfl ?_
          exact zr_ri rfl rfl rfl hf
      · have hf := zo_f hf b20
        refine zq_wg 1 (pc' := 97) (lv' := [some (.ref y5), some (.int y6), some (.int y7), some (.int y8), some (.int y9)]) (st' := [.int y8]) (h' := h16) rfl ?_
        exact zr_ri rfl rfl rfl hf
set_option maxRecDepth 4000 in
theorem zm_passes_ok (sc : zX) (d : Nat) (hd : 6 ≤ d) {a0 : Nat} {a1 : Int32} {a2 : Int32} {h : zH} {ro_ : Int32} {ho_ : zH} (hf : zm_passes sc a0 a1 a2 h = some (ro_, ho_)) : zq_wm sc d 217 [.ref a0, .int a1, .int a2] h (some (.int ro_), ho_) := by
  unfold zm_passes at hf
  obtain ⟨d, rfl⟩ : ∃ d', d = d' + 1 := ⟨d - 1, by omega⟩
  have hd : 5 ≤ d := by omega
  show zq_wp sc (d + 1) 217 0 [some (.ref a0), some (.int a1), some (.int a2), none, none] [] h _
  refine zq_wg 4 (pc' := 4) (lv' := [some (.ref a0), some (.int a1), some (.int a2), some (.int (0 : Int32)), none]) (st' := [.int a1, .ref a0]) (h' := h) rfl ?_
  obtain ⟨e4, v2, h1, e3, hf⟩ := zo_v_s hf
  refine zr_cv zq_m202 [.int a1] [] rfl rfl rfl rfl rfl (Nat.le_of_ble_eq_true rfl) (Nat.le_of_ble_eq_true rfl) e4 (zm_oursOf_ok sc d (by omega) e3) ?_
  refine zq_wg 0 (pc' := 7) (lv' := [some (.ref a0), some (.int a1), some (.int a2), some (.int (0 : Int32)), none]) (st' := [.int v2]) (h' := h1) rfl ?_
  refine zq_wg 1 (pc' := 9) (lv' := [some (.ref a0), some (.int a1), some (.int a2), some (.int (0 : Int32)), some (.int v2)]) (st' := []) (h' := h1) rfl ?_
  refine zm_passes_l9_ok sc d hd zo_F a0 a1 a2 (0 : Int32) v2 h1 _ _ hf
set_option maxRecDepth 4000 in
def zm_weeks (sc : zX) (a0 : Nat) (a1 : Int32) (h : zH) : Option (Int32 × zH) := zo_b (zo_pI h 10 a0 0 (0 : Int32)) (fun h1 => zo_c (zm_within sc a1 (1 : Int32) (13 : Int32) h1) (fun v4 h3 => if v4 = 0 then (some ((-1 : Int32), h3)) else (zo_b (zo_gR h3 10 a0 25) (fun v7 => zo_b (zq_rdI sc h3 v7 (1 : Int32)) (fun v9 => zo_v h3 a0 10 (zm_isEnd sc a0 v9 h3) (fun v12 h11 => if v12 = 0 then (zo_v h11 a0 10 (zm_isOver sc a0 (0 : Int32) h11) (fun v17 h16 => if v17 = 0 then (zo_v h16 a0 10 (zm_keeps sc a0 h16) (fun w22 h21 => zo_v h21 a0 10 (zm_passes sc a0 (0 : Int32) a1 h21) (fun v26 h25 => some (v26, h25)))) else (some ((-1 : Int32), h16)))) else (some ((-1 : Int32), h11))))))))
set_option maxRecDepth 4000 in
theorem zm_weeks_ok (sc : zX) (d : Nat) (hd : 7 ≤ d) {a0 : Nat} {a1 : Int32} {h : zH} {ro_ : Int32} {ho_ : zH} (hf : zm_weeks sc a0 a1 h = some (ro_, ho_)) : zq_wm sc d 213 [.ref a0, .int a1] h (some (.int ro_), ho_) := by
  unfold zm_weeks at hf
  obtain ⟨d, rfl⟩ : ∃ d', d = d' + 1 := ⟨d - 1, by omega⟩
  have hd : 6 ≤ d := by omega
  show zq_wp sc (d + 1) 213 0 [some (.ref a0), some (.int a1)] [] h _
  refine zq_wg 2 (pc' := 2) (lv' := [some (.ref a0), some (.int a1)]) (st' := [.int (0 : Int32), .ref a0]) (h' := h) rfl ?_
  obtain ⟨h1, e2, hf⟩ := zo_b_s hf
  refine zr_pI rfl rfl (by decide) rfl rfl e2 ?_
  refine zq_wg 3 (pc' := 9) (lv' := [some (.ref a0), some (.int a1)]) (st' := [.int (13 : Int32), .int (1 : Int32), .int a1]) (h' := h1) rfl ?_
  obtain ⟨v4, h3, e5, hf⟩ := zo_c_s hf
  refine zr_cs zq_m173 [.int a1, .int (1 : Int32), .int (13 : Int32)] [] rfl rfl (by decide) rfl rfl rfl (Nat.le_of_ble_eq_true rfl) (Nat.le_of_ble_eq_true rfl) (zm_within_ok sc d (by omega) e5) ?_
  refine zq_wg 0 (pc' := 12) (lv' := [some (.ref a0), some (.int a1)]) (st' := [.int v4]) (h' := h3) rfl ?_
  refine zr_if (v4 = 0) 36 15 (st' := []) rfl rfl (fun b6 => ?_) (fun b6 => ?_)
  · have hf := zo_t hf b6
    refine zq_wg 1 (pc' := 37) (lv' := [some (.ref a0), some (.int a1)]) (st' := [.int (-1 : Int32)]) (h' := h3) rfl ?_
    exact zr_ri rfl rfl rfl hf
  · have hf := zo_f hf b6
    refine zq_wg 2 (pc' := 17) (lv' := [some (.ref a0), some (.int a1)]) (st' := [.ref a0, .ref a0]) (h' := h3) rfl ?_
    obtain ⟨v7, e8, hf⟩ := zo_b_s hf
    refine zr_gR rfl rfl (by decide) rfl e8 ?_
    refine zq_wg 1 (pc' := 21) (lv' := [some (.ref a0), some (.int a1)]) (st' := [.int (1 : Int32), .ref v7, .ref a0]) (h' := h3) rfl ?_
    obtain ⟨v9, e10, hf⟩ := zo_b_s hf
    refine zr_iald rfl e10 ?_
    obtain ⟨e14, v12, h11, e13, hf⟩ := zo_v_s hf
    refine zr_cv zq_m214 [.int v9] [] rfl rfl rfl rfl rfl (Nat.le_of_ble_eq_true rfl) (Nat.le_of_ble_eq_true rfl) e14 (zm_isEnd_ok sc d (by omega) e13) ?_
    refine zq_wg 0 (pc' := 25) (lv' := [some (.ref a0), some (.int a1)]) (st' := [.int v12]) (h' := h11) rfl ?_
    refine zr_if (v12 = 0) 28 36 (st' := []) rfl rfl (fun b15 => ?_) (fun b15 => ?_)
    · have hf := zo_t hf b15
      refine zq_wg 2 (pc' := 30) (lv' := [some (.ref a0), some (.int a1)]) (st' := [.int (0 : Int32), .ref a0]) (h' := h11) rfl ?_
      obtain ⟨e19, v17, h16, e18, hf⟩ := zo_v_s hf
      refine zr_cv zq_m216 [.int (0 : Int32)] [] rfl rfl rfl rfl rfl (Nat.le_of_ble_eq_true rfl) (Nat.le_of_ble_eq_true rfl) e19 (zm_isOver_ok sc d (by omega) e18) ?_
      refine zq_wg 0 (pc' := 33) (lv' := [some (.ref a0), some (.int a1)]) (st' := [.int v17]) (h' := h16) rfl ?_
      refine zr_if (v17 = 0) 38 36 (st' := []) rfl rfl (fun b20 => ?_) (fun b20 => ?_)
      · have hf := zo_t hf b20
        refine zq_wg 1 (pc' := 39) (lv' := [some (.ref a0), some (.int a1)]) (st' := [.ref a0]) (h' := h16) rfl ?_
        obtain ⟨e24, w22, h21, e23, hf⟩ := zo_v_s hf
        refine zr_cv zq_m205 [] [] rfl rfl rfl rfl rfl (Nat.le_of_ble_eq_true rfl) (Nat.le_of_ble_eq_true rfl) e24 (zm_keeps_ok sc d (by omega) e23) ?_
        refine zq_wg 0 (pc' := 42) (lv' := [some (.ref a0), some (.int a1)]) (st' := []) (h' := h21) rfl ?_
        refine zq_wg 3 (pc' := 45) (lv' := [some (.ref a0), some (.int a1)]) (st' := [.int a1, .int (0 : Int32), .ref a0]) (h' := h21) rfl ?_
        obtain ⟨e28, v26, h25, e27, hf⟩ := zo_v_s hf
        refine zr_cv zq_m217 [.int (0 : Int32), .int a1] [] rfl rfl rfl rfl rfl (Nat.le_of_ble_eq_true rfl) (Nat.le_of_ble_eq_true rfl) e28 (zm_passes_ok sc d (by omega) e27) ?_
        refine zq_wg 0 (pc' := 48) (lv' := [some (.ref a0), some (.int a1)]) (st' := [.int v26]) (h' := h25) rfl ?_
        exact zr_ri rfl rfl rfl hf
      · have hf := zo_f hf b20
        refine zq_wg 1 (pc' := 37) (lv' := [some (.ref a0), some (.int a1)]) (st' := [.int (-1 : Int32)]) (h' := h16) rfl ?_
        exact zr_ri rfl rfl rfl hf
    · have hf := zo_f hf b15
      refine zq_wg 1 (pc' := 37) (lv' := [some (.ref a0), some (.int a1)]) (st' := [.int (-1 : Int32)]) (h' := h11) rfl ?_
      exact zr_ri rfl rfl rfl hf
set_option maxRecDepth 4000 in
def zm_undo (sc : zX) (a0 : Nat) (h : zH) : Option (Int32 × zH) := zo_b (zo_pI h 10 a0 0 (0 : Int32)) (fun h1 => zo_b (zo_gI h1 10 a0 26) (fun v3 => if v3 = 0 then (some ((0 : Int32), h1)) else (zo_b (zo_gI h1 10 a0 26) (fun v6 => zo_b (zo_pI h1 10 a0 26 (v6 - (1 : Int32))) (fun h8 => zo_b (zo_gI h8 10 a0 26) (fun v10 => zo_v h8 a0 10 (zm_copies sc a0 ((40 : Int32) * ((5 : Int32) + v10)) (0 : Int32) (16 : Int32) h8) (fun w13 h12 => some ((1 : Int32), h12))))))))
set_option maxRecDepth 4000 in
theorem zm_undo_ok (sc : zX) (d : Nat) (hd : 1 ≤ d) {a0 : Nat} {h : zH} {ro_ : Int32} {ho_ : zH} (hf : zm_undo sc a0 h = some (ro_, ho_)) : zq_wm sc d 220 [.ref a0] h (some (.int ro_), ho_) := by
  unfold zm_undo at hf
  obtain ⟨d, rfl⟩ : ∃ d', d = d' + 1 := ⟨d - 1, by omega⟩
  have hd : 0 ≤ d := by omega
  show zq_wp sc (d + 1) 220 0 [some (.ref a0)] [] h _
  refine zq_wg 2 (pc' := 2) (lv' := [some (.ref a0)]) (st' := [.int (0 : Int32), .ref a0]) (h' := h) rfl ?_
  obtain ⟨h1, e2, hf⟩ := zo_b_s hf
  refine zr_pI rfl rfl (by decide) rfl rfl e2 ?_
  refine zq_wg 1 (pc' := 6) (lv' := [some (.ref a0)]) (st' := [.ref a0]) (h' := h1) rfl ?_
  obtain ⟨v3, e4, hf⟩ := zo_b_s hf
  refine zr_gI rfl rfl (by decide) rfl e4 ?_
  refine zr_if (v3 = 0) 12 14 (st' := []) rfl rfl (fun b5 => ?_) (fun b5 => ?_)
  · have hf := zo_t hf b5
    refine zq_wg 1 (pc' := 13) (lv' := [some (.ref a0)]) (st' := [.int (0 : Int32)]) (h' := h1) rfl ?_
    exact zr_ri rfl rfl rfl hf
  · have hf := zo_f hf b5
    refine zq_wg 2 (pc' := 16) (lv' := [some (.ref a0)]) (st' := [.ref a0, .ref a0]) (h' := h1) rfl ?_
    obtain ⟨v6, e7, hf⟩ := zo_b_s hf
    refine zr_gI rfl rfl (by decide) rfl e7 ?_
    refine zq_wg 2 (pc' := 21) (lv' := [some (.ref a0)]) (st' := [.int (v6 - (1 : Int32)), .ref a0]) (h' := h1) rfl ?_
    obtain ⟨h8, e9, hf⟩ := zo_b_s hf
    refine zr_pI rfl rfl (by decide) rfl rfl e9 ?_
    refine zq_wg 4 (pc' := 29) (lv' := [some (.ref a0)]) (st' := [.ref a0, .int (5 : Int32), .int (40 : Int32), .ref a0]) (h' := h8) rfl ?_
    obtain ⟨v10, e11, hf⟩ := zo_b_s hf
    refine zr_gI rfl rfl (by decide) rfl e11 ?_
    refine zq_wg 4 (pc' := 37) (lv' := [some (.ref a0)]) (st' := [.int (16 : Int32), .int (0 : Int32), .int ((40 : Int32) * ((5 : Int32) + v10)), .ref a0]) (h' := h8) rfl ?_
    obtain ⟨e15, w13, h12, e14, hf⟩ := zo_v_s hf
    refine zr_cv zq_m206 [.int ((40 : Int32) * ((5 : Int32) + v10)), .int (0 : Int32), .int (16 : Int32)] [] rfl rfl rfl rfl rfl (Nat.le_of_ble_eq_true rfl) (Nat.le_of_ble_eq_true rfl) e15 (zm_copies_ok sc d (by omega) e14) ?_
    refine zq_wg 0 (pc' := 40) (lv' := [some (.ref a0)]) (st' := []) (h' := h12) rfl ?_
    refine zq_wg 1 (pc' := 41) (lv' := [some (.ref a0)]) (st' := [.int (1 : Int32)]) (h' := h12) rfl ?_
    exact zr_ri rfl rfl rfl hf
set_option maxRecDepth 4000 in
def zm_does (sc : zX) (a0 : Nat) (a1 : Int32) (h : zH) : Option (Int32 × zH) := zo_b (zo_gR h 10 a0 22) (fun v1 => zo_b (zq_rdI sc h v1 a1) (fun v3 => zo_b (zo_gR h 10 a0 22) (fun v5 => zo_b (zq_rdI sc h v5 (a1 + (1 : Int32))) (fun v7 => if v3 = 0 then (zo_b (zo_pL h 10 a0 30 v7.toInt64) (fun h10 => zo_v h10 a0 10 (zm_draws sc a0 (840 : Int32) h10) (fun w13 h12 => some ((1 : Int32), h12)))) else (if v3 = (3 : Int32) then (zo_v h a0 10 (zm_passes sc a0 (840 : Int32) v7 h) (fun v18 h17 => if v18 = v7 then (some ((1 : Int32), h17)) else (some ((0 : Int32), h17)))) else (zo_l (fun (x22 : Nat) (x23 : Int32) (x24 : Int32) (x25 : Int32) (x26 : Int32) (h27 : zH) => zo_l (fun (x28 : Nat) (x29 : Int32) (x30 : Int32) (h31 : zH) => if x30 = 0 then (zo_rb x30 h31) else (zo_b (zo_gR h31 10 x28 25) (fun v33 => zo_b (zq_wrX 1 h31 v33 (842 : Int32) x29) (fun h35 => zo_rb x30 h35)))) (fun j146_31 => if x26 = 0 then (j146_31 x22 x25 x26 h27) else (if x24 = (1 : Int32) then (zo_b (zo_gR h27 10 x22 22) (fun v39 => zo_b (zq_rdI sc h27 v39 (x23 + (2 : Int32))) (fun v41 => zo_b (zo_gR h27 10 x22 22) (fun v43 => zo_b (zq_rdI sc h27 v43 (x23 + (3 : Int32))) (fun v45 => zo_v h27 x22 10 (zm_sells sc x22 (840 : Int32) x25 v41 v45 h27) (fun w48 h47 => zo_rb x26 h47)))))) else (j146_31 x22 x25 x26 h27)))) (fun j107_27 => if v3 = (1 : Int32) then (zo_b (zo_gR h 10 a0 22) (fun v52 => zo_b (zq_rdI sc h v52 (a1 + (2 : Int32))) (fun v54 => zo_b (zo_gR h 10 a0 22) (fun v56 => zo_b (zq_rdI sc h v56 (a1 + (3 : Int32))) (fun v58 => zo_v h a0 10 (zm_maySell sc a0 (840 : Int32) v7 v54 v58 h) (fun v61 h60 => j107_27 a0 a1 v3 v7 v61 h60)))))) else (zo_b (zo_gR h 10 a0 25) (fun v64 => zo_b (zq_rdI sc h v64 (842 : Int32)) (fun v66 => if v66 = v7 then (j107_27 a0 a1 v3 v7 (0 : Int32) h) else (j107_27 a0 a1 v3 v7 (1 : Int32) h)))))))))))
set_option maxRecDepth 4000 in
theorem zm_does_ok (sc : zX) (d : Nat) (hd : 7 ≤ d) {a0 : Nat} {a1 : Int32} {h : zH} {ro_ : Int32} {ho_ : zH} (hf : zm_does sc a0 a1 h = some (ro_, ho_)) : zq_wm sc d 222 [.ref a0, .int a1] h (some (.int ro_), ho_) := by
  unfold zm_does at hf
  obtain ⟨d, rfl⟩ : ∃ d', d = d' + 1 := ⟨d - 1, by omega⟩
  have hd : 6 ≤ d := by omega
  show zq_wp sc (d + 1) 222 0 [some (.ref a0), some (.int a1), none, none, none] [] h _
  refine zq_wg 1 (pc' := 1) (lv' := [some (.ref a0), some (.int a1), none, none, none]) (st' := [.ref a0]) (h' := h) rfl ?_
  obtain ⟨v1, e2, hf⟩ := zo_b_s hf
  refine zr_gR rfl rfl (by decide) rfl e2 ?_
  refine zq_wg 1 (pc' := 5) (lv' := [some (.ref a0), some (.int a1), none, none, none]) (st' := [.int a1, .ref v1]) (h' := h) rfl ?_
  obtain ⟨v3, e4, hf⟩ := zo_b_s hf
  refine zr_iald rfl e4 ?_
  refine zq_wg 2 (pc' := 8) (lv' := [some (.ref a0), some (.int a1), some (.int v3), none, none]) (st' := [.ref a0]) (h' := h) rfl ?_
  obtain ⟨v5, e6, hf⟩ := zo_b_s hf
  refine zr_gR rfl rfl (by decide) rfl e6 ?_
  refine zq_wg 3 (pc' := 14) (lv' := [some (.ref a0), some (.int a1), some (.int v3), none, none]) (st' := [.int (a1 + (1 : Int32)), .ref v5]) (h' := h) rfl ?_
  obtain ⟨v7, e8, hf⟩ := zo_b_s hf
  refine zr_iald rfl e8 ?_
  refine zq_wg 2 (pc' := 17) (lv' := [some (.ref a0), some (.int a1), some (.int v3), some (.int v7), none]) (st' := [.int v3]) (h' := h) rfl ?_
  refine zr_if (v3 = 0) 20 35 (st' := []) rfl rfl (fun b9 => ?_) (fun b9 => ?_)
  · have hf := zo_t hf b9
    refine zq_wg 3 (pc' := 23) (lv' := [some (.ref a0), some (.int a1), some (.int v3), some (.int v7), none]) (st' := [.long v7.toInt64, .ref a0]) (h' := h) rfl ?_
    obtain ⟨h10, e11, hf⟩ := zo_b_s hf
    refine zr_pL rfl rfl (by decide) rfl rfl e11 ?_
    refine zq_wg 2 (pc' := 30) (lv' := [some (.ref a0), some (.int a1), some (.int v3), some (.int v7), none]) (st' := [.int (840 : Int32), .ref a0]) (h' := h10) rfl ?_
    obtain ⟨e15, w13, h12, e14, hf⟩ := zo_v_s hf
    refine zr_cv zq_m207 [.int (840 : Int32)] [] rfl rfl rfl rfl rfl (Nat.le_of_ble_eq_true rfl) (Nat.le_of_ble_eq_true rfl) e15 (zm_draws_ok sc d (by omega) e14) ?_
    refine zq_wg 0 (pc' := 33) (lv' := [some (.ref a0), some (.int a1), some (.int v3), some (.int v7), none]) (st' := []) (h' := h12) rfl ?_
    refine zq_wg 1 (pc' := 34) (lv' := [some (.ref a0), some (.int a1), some (.int v3), some (.int v7), none]) (st' := [.int (1 : Int32)]) (h' := h12) rfl ?_
    exact zr_ri rfl rfl rfl hf
  · have hf := zo_f hf b9
    refine zq_wg 2 (pc' := 37) (lv' := [some (.ref a0), some (.int a1), some (.int v3), some (.int v7), none]) (st' := [.int (3 : Int32), .int v3]) (h' := h) rfl ?_
    refine zr_if (v3 = (3 : Int32)) 40 58 (st' := []) rfl rfl (fun b16 => ?_) (fun b16 => ?_)
    · have hf := zo_t hf b16
      refine zq_wg 3 (pc' := 45) (lv' := [some (.ref a0), some (.int a1), some (.int v3), some (.int v7), none]) (st' := [.int v7, .int (840 : Int32), .ref a0]) (h' := h) rfl ?_
      obtain ⟨e20, v18, h17, e19, hf⟩ := zo_v_s hf
      refine zr_cv zq_m217 [.int (840 : Int32), .int v7] [] rfl rfl rfl rfl rfl (Nat.le_of_ble_eq_true rfl) (Nat.le_of_ble_eq_true rfl) e20 (zm_passes_ok sc d (by omega) e19) ?_
      refine zq_wg 0 (pc' := 48) (lv' := [some (.ref a0), some (.int a1), some (.int v3), some (.int v7), none]) (st' := [.int v18]) (h' := h17) rfl ?_
      refine zq_wg 1 (pc' := 49) (lv' := [some (.ref a0), some (.int a1), some (.int v3), some (.int v7), none]) (st' := [.int v7, .int v18]) (h' := h17) rfl ?_
      refine zr_if (v18 = v7) 52 56 (st' := []) rfl rfl (fun b21 => ?_) (fun b21 => ?_)
      · have hf := zo_t hf b21
        refine zq_wg 2 (pc' := 57) (lv' := [some (.ref a0), some (.int a1), some (.int v3), some (.int v7), none]) (st' := [.int (1 : Int32)]) (h' := h17) rfl ?_
        exact zr_ri rfl rfl rfl hf
      · have hf := zo_f hf b21
        refine zq_wg 1 (pc' := 57) (lv' := [some (.ref a0), some (.int a1), some (.int v3), some (.int v7), none]) (st' := [.int (0 : Int32)]) (h' := h17) rfl ?_
        exact zr_ri rfl rfl rfl hf
    · have hf := zo_f hf b16
      refine zq_wg 2 (pc' := 60) (lv' := [some (.ref a0), some (.int a1), some (.int v3), some (.int v7), none]) (st' := [.int (1 : Int32), .int v3]) (h' := h) rfl ?_
      obtain ⟨j107_27, hjj107_27, hf⟩ := zo_lj hf
      have kj107_27 : ∀ (x22 : Nat) (x23 : Int32) (x24 : Int32) (x25 : Int32) (x26 : Int32) (h27 : zH), j107_27 x22 x23 x24 x25 x26 h27 = some (ro_, ho_) → zq_wp sc (d + 1) 222 107 [some (.ref x22), some (.int x23), some (.int x24), some (.int x25), none] [.int x26] h27 (some (.int ro_), ho_) := by
        intro x22 x23 x24 x25 x26 h27 hf
        rw [hjj107_27] at hf
        refine zq_wg 2 (pc' := 111) (lv' := [some (.ref x22), some (.int x23), some (.int x24), some (.int x25), some (.int x26)]) (st' := [.int x26]) (h' := h27) rfl ?_
        obtain ⟨j146_31, hjj146_31, hf⟩ := zo_lj hf
        have kj146_31 : ∀ (x28 : Nat) (x29 : Int32) (x30 : Int32) (h31 : zH), j146_31 x28 x29 x30 h31 = some (ro_, ho_) → zq_wp sc (d + 1) 222 146 [some (.ref x28), none, none, some (.int x29), some (.int x30)] [] h31 (some (.int ro_), ho_) := by
          intro x28 x29 x30 h31 hf
          rw [hjj146_31] at hf
          refine zq_wg 1 (pc' := 148) (lv' := [some (.ref x28), none, none, some (.int x29), some (.int x30)]) (st' := [.int x30]) (h' := h31) rfl ?_
          refine zr_if (x30 = 0) 160 151 (st' := []) rfl rfl (fun b32 => ?_) (fun b32 => ?_)
          · have hf := zo_t hf b32
            refine zq_wg 1 (pc' := 162) (lv' := [some (.ref x28), none, none, some (.int x29), some (.int x30)]) (st' := [.int x30]) (h' := h31) rfl ?_
            exact zr_rb rfl rfl hf
          · have hf := zo_f hf b32
            refine zq_wg 1 (pc' := 152) (lv' := [some (.ref x28), none, none, some (.int x29), some (.int x30)]) (st' := [.ref x28]) (h' := h31) rfl ?_
            obtain ⟨v33, e34, hf⟩ := zo_b_s hf
            refine zr_gR rfl rfl (by decide) rfl e34 ?_
            refine zq_wg 2 (pc' := 159) (lv' := [some (.ref x28), none, none, some (.int x29), some (.int x30)]) (st' := [.int x29, .int (842 : Int32), .ref v33]) (h' := h31) rfl ?_
            obtain ⟨h35, e36, hf⟩ := zo_b_s hf
            refine zr_iast rfl e36 ?_
            refine zq_wg 1 (pc' := 162) (lv' := [some (.ref x28), none, none, some (.int x29), some (.int x30)]) (st' := [.int x30]) (h' := h35) rfl ?_
            exact zr_rb rfl rfl hf
        refine zr_if (x26 = 0) 146 114 (st' := []) rfl rfl (fun b37 => ?_) (fun b37 => ?_)
        · have hf := zo_t hf b37
          refine zq_fg [some (.ref x22), none, none, some (.int x25), some (.int x26)] (zq_lvle_s (zq_lvle_n (zq_lvle_n (zq_lvle_s (zq_lvle_s zq_lvle_nil))))) ?_
          exact kj146_31 x22 x25 x26 h27 hf
        · have hf := zo_f hf b37
          refine zq_wg 2 (pc' := 116) (lv' := [some (.ref x22), some (.int x23), some (.int x24), some (.int x25), some (.int x26)]) (st' := [.int (1 : Int32), .int x24]) (h' := h27) rfl ?_
          refine zr_if (x24 = (1 : Int32)) 119 146 (st' := []) rfl rfl (fun b38 => ?_) (fun b38 => ?_)
          · have hf := zo_t hf b38
            refine zq_wg 4 (pc' := 125) (lv' := [some (.ref x22), some (.int x23), some (.int x24), some (.int x25), some (.int x26)]) (st' := [.ref x22, .int x25, .int (840 : Int32), .ref x22]) (h' := h27) rfl ?_
            obtain ⟨v39, e40, hf⟩ := zo_b_s hf
            refine zr_gR rfl rfl (by decide) rfl e40 ?_
            refine zq_wg 3 (pc' := 131) (lv' := [some (.ref x22), some (.int x23), some (.int x24), some (.int x25), some (.int x26)]) (st' := [.int (x23 + (2 : Int32)), .ref v39, .int x25, .int (840 : Int32), .ref x22]) (h' := h27) rfl ?_
            obtain ⟨v41, e42, hf⟩ := zo_b_s hf
            refine zr_iald rfl e42 ?_
            refine zq_wg 1 (pc' := 133) (lv' := [some (.ref x22), some (.int x23), some (.int x24), some (.int x25), some (.int x26)]) (st' := [.ref x22, .int v41, .int x25, .int (840 : Int32), .ref x22]) (h' := h27) rfl ?_
            obtain ⟨v43, e44, hf⟩ := zo_b_s hf
            refine zr_gR rfl rfl (by decide) rfl e44 ?_
            refine zq_wg 3 (pc' := 139) (lv' := [some (.ref x22), some (.int x23), some (.int x24), some (.int x25), some (.int x26)]) (st' := [.int (x23 + (3 : Int32)), .ref v43, .int v41, .int x25, .int (840 : Int32), .ref x22]) (h' := h27) rfl ?_
            obtain ⟨v45, e46, hf⟩ := zo_b_s hf
            refine zr_iald rfl e46 ?_
            obtain ⟨e50, w48, h47, e49, hf⟩ := zo_v_s hf
            refine zr_cv zq_m211 [.int (840 : Int32), .int x25, .int v41, .int v45] [] rfl rfl rfl rfl rfl (Nat.le_of_ble_eq_true rfl) (Nat.le_of_ble_eq_true rfl) e50 (zm_sells_ok sc d (by omega) e49) ?_
            refine zq_wg 0 (pc' := 143) (lv' := [some (.ref x22), some (.int x23), some (.int x24), some (.int x25), some (.int x26)]) (st' := []) (h' := h47) rfl ?_
            refine zq_wg 2 (pc' := 162) (lv' := [some (.ref x22), some (.int x23), some (.int x24), some (.int x25), some (.int x26)]) (st' := [.int x26]) (h' := h47) rfl ?_
            exact zr_rb rfl rfl hf
          · have hf := zo_f hf b38
            refine zq_fg [some (.ref x22), none, none, some (.int x25), some (.int x26)] (zq_lvle_s (zq_lvle_n (zq_lvle_n (zq_lvle_s (zq_lvle_s zq_lvle_nil))))) ?_
            exact kj146_31 x22 x25 x26 h27 hf
      refine zr_if (v3 = (1 : Int32)) 63 90 (st' := []) rfl rfl (fun b51 => ?_) (fun b51 => ?_)
      · have hf := zo_t hf b51
        refine zq_wg 4 (pc' := 69) (lv' := [some (.ref a0), some (.int a1), some (.int v3), some (.int v7), none]) (st' := [.ref a0, .int v7, .int (840 : Int32), .ref a0]) (h' := h) rfl ?_
        obtain ⟨v52, e53, hf⟩ := zo_b_s hf
        refine zr_gR rfl rfl (by decide) rfl e53 ?_
        refine zq_wg 3 (pc' := 75) (lv' := [some (.ref a0), some (.int a1), some (.int v3), some (.int v7), none]) (st' := [.int (a1 + (2 : Int32)), .ref v52, .int v7, .int (840 : Int32), .ref a0]) (h' := h) rfl ?_
        obtain ⟨v54, e55, hf⟩ := zo_b_s hf
        refine zr_iald rfl e55 ?_
        refine zq_wg 1 (pc' := 77) (lv' := [some (.ref a0), some (.int a1), some (.int v3), some (.int v7), none]) (st' := [.ref a0, .int v54, .int v7, .int (840 : Int32), .ref a0]) (h' := h) rfl ?_
        obtain ⟨v56, e57, hf⟩ := zo_b_s hf
        refine zr_gR rfl rfl (by decide) rfl e57 ?_
        refine zq_wg 3 (pc' := 83) (lv' := [some (.ref a0), some (.int a1), some (.int v3), some (.int v7), none]) (st' := [.int (a1 + (3 : Int32)), .ref v56, .int v54, .int v7, .int (840 : Int32), .ref a0]) (h' := h) rfl ?_
        obtain ⟨v58, e59, hf⟩ := zo_b_s hf
        refine zr_iald rfl e59 ?_
        obtain ⟨e63, v61, h60, e62, hf⟩ := zo_v_s hf
        refine zr_cv zq_m210 [.int (840 : Int32), .int v7, .int v54, .int v58] [] rfl rfl rfl rfl rfl (Nat.le_of_ble_eq_true rfl) (Nat.le_of_ble_eq_true rfl) e63 (zm_maySell_ok sc d (by omega) e62) ?_
        refine zq_wg 0 (pc' := 87) (lv' := [some (.ref a0), some (.int a1), some (.int v3), some (.int v7), none]) (st' := [.int v61]) (h' := h60) rfl ?_
        refine zq_wg 1 (pc' := 107) (lv' := [some (.ref a0), some (.int a1), some (.int v3), some (.int v7), none]) (st' := [.int v61]) (h' := h60) rfl ?_
        exact kj107_27 a0 a1 v3 v7 v61 h60 hf
      · have hf := zo_f hf b51
        refine zq_wg 1 (pc' := 91) (lv' := [some (.ref a0), some (.int a1), some (.int v3), some (.int v7), none]) (st' := [.ref a0]) (h' := h) rfl ?_
        obtain ⟨v64, e65, hf⟩ := zo_b_s hf
        refine zr_gR rfl rfl (by decide) rfl e65 ?_
        refine zq_wg 1 (pc' := 97) (lv' := [some (.ref a0), some (.int a1), some (.int v3), some (.int v7), none]) (st' := [.int (842 : Int32), .ref v64]) (h' := h) rfl ?_
        obtain ⟨v66, e67, hf⟩ := zo_b_s hf
        refine zr_iald rfl e67 ?_
        refine zq_wg 1 (pc' := 99) (lv' := [some (.ref a0), some (.int a1), some (.int v3), some (.int v7), none]) (st' := [.int v7, .int v66]) (h' := h) rfl ?_
        refine zr_if (v66 = v7) 106 102 (st' := []) rfl rfl (fun b68 => ?_) (fun b68 => ?_)
        · have hf := zo_t hf b68
          refine zq_wg 1 (pc' := 107) (lv' := [some (.ref a0), some (.int a1), some (.int v3), some (.int v7), none]) (st' := [.int (0 : Int32)]) (h' := h) rfl ?_
          exact kj107_27 a0 a1 v3 v7 (0 : Int32) h hf
        · have hf := zo_f hf b68
          refine zq_wg 2 (pc' := 107) (lv' := [some (.ref a0), some (.int a1), some (.int v3), some (.int v7), none]) (st' := [.int (1 : Int32)]) (h' := h) rfl ?_
          exact kj107_27 a0 a1 v3 v7 (1 : Int32) h hf
set_option maxRecDepth 4000 in
def zm_judged_l28 (sc : zX) : Nat → Nat → Int32 → Int32 → Int32 → zH → (Nat → Int32 → Int32 → zH → Option (Int32 × zH)) → Option (Int32 × zH)
  | 0, _, _, _, _, _, _ => none
  | n + 1, y11, y12, y13, y14, h15, k70 => zo_b (zo_gR h15 10 y11 22) (fun v16 => zo_b (zq_rdI sc h15 v16 (0 : Int32)) (fun v18 => if v18 ≤ y14 then (k70 y11 y12 y13 h15) else (zo_v h15 y11 10 (zm_does sc y11 ((1 : Int32) + ((4 : Int32) * y14)) h15) (fun v22 h21 => zo_l (fun (x25 : Nat) (x26 : Int32) (x27 : Int32) (x28 : Int32) (h29 : zH) => zm_judged_l28 sc n x25 x26 x28 (x27 + (1 : Int32)) h29 k70) (fun j63_29 => zo_l (fun (x30 : Nat) (x31 : Int32) (x32 : Int32) (x33 : Int32) (h34 : zH) => j63_29 x30 x31 x33 x32 h34) (fun j62_34 => if v22 = 0 then (if 0 ≤ y13 then (j62_34 y11 y12 y13 y14 h21) else (j63_29 y11 y12 y14 y14 h21)) else (j62_34 y11 y12 y13 y14 h21)))))))
set_option maxRecDepth 4000 in
def zm_judged (sc : zX) (a0 : Nat) (a1 : Int32) (h : zH) : Option (Int32 × zH) := zo_b (zo_pI h 10 a0 0 (0 : Int32)) (fun h1 => zo_c (zm_within sc a1 (0 : Int32) (2 : Int32) h1) (fun v4 h3 => if v4 = 0 then (some ((-2 : Int32), h3)) else (zo_v h3 a0 10 (zm_starts sc a0 (840 : Int32) h3) (fun w8 h7 => zm_judged_l28 sc zo_F a0 a1 (-1 : Int32) (0 : Int32) h7 (fun (x37 : Nat) (x38 : Int32) (x39 : Int32) (h40 : zH) => if x38 = 0 then (some (x39, h40)) else (if x38 = (1 : Int32) then (zo_b (zo_gR h40 10 x37 25) (fun v43 => zo_b (zq_rdI sc h40 v43 (841 : Int32)) (fun v45 => some (v45, h40)))) else (zo_b (zo_gR h40 10 x37 25) (fun v47 => zo_b (zq_rdI sc h40 v47 (840 : Int32)) (fun v49 => some (v49, h40))))))))))
set_option maxRecDepth 4000 in
theorem zm_judged_l28_ok (sc : zX) (d : Nat) (hd : 7 ≤ d) : ∀ (n : Nat) (y11 : Nat) (y12 : Int32) (y13 : Int32) (y14 : Int32) (h15 : zH) (k70 : Nat → Int32 → Int32 → zH → Option (Int32 × zH)) (ro_ : Int32) (ho_ : zH), (∀ (z0 : Nat) (z1 : Int32) (z2 : Int32) (hz : zH), k70 z0 z1 z2 hz = some (ro_, ho_) → zq_wp sc (d + 1) 221 70 [some (.ref z0), some (.int z1), some (.int z2), none, none] [] hz (some (.int ro_), ho_)) → zm_judged_l28 sc n y11 y12 y13 y14 h15 k70 = some (ro_, ho_) → zq_wp sc (d + 1) 221 28 [some (.ref y11), some (.int y12), some (.int y13), some (.int y14), none] [] h15 (some (.int ro_), ho_) := by
  intro n
  induction n with
  | zero => intro y11 y12 y13 y14 h15 k70 ro_ ho_ hk70 hf; cases hf
  | succ n ih =>
    intro y11 y12 y13 y14 h15 k70 ro_ ho_ hk70 hf
    refine zq_wg 2 (pc' := 30) (lv' := [some (.ref y11), some (.int y12), some (.int y13), some (.int y14), none]) (st' := [.ref y11, .int y14]) (h' := h15) rfl ?_
    obtain ⟨v16, e17, hf⟩ := zo_b_s hf
    refine zr_gR rfl rfl (by decide) rfl e17 ?_
    refine zq_wg 1 (pc' := 34) (lv' := [some (.ref y11), some (.int y12), some (.int y13), some (.int y14), none]) (st' := [.int (0 : Int32), .ref v16, .int y14]) (h' := h15) rfl ?_
    obtain ⟨v18, e19, hf⟩ := zo_b_s hf
    refine zr_iald rfl e19 ?_
    refine zr_if (v18 ≤ y14) 70 38 (st' := []) rfl rfl (fun b20 => ?_) (fun b20 => ?_)
    · have hf := zo_t hf b20
      refine zq_fg [some (.ref y11), some (.int y12), some (.int y13), none, none] (zq_lvle_s (zq_lvle_s (zq_lvle_s (zq_lvle_n (zq_lvle_s zq_lvle_nil))))) ?_
      exact hk70 y11 y12 y13 h15 hf
    · have hf := zo_f hf b20
      refine zq_wg 6 (pc' := 44) (lv' := [some (.ref y11), some (.int y12), some (.int y13), some (.int y14), none]) (st' := [.int ((1 : Int32) + ((4 : Int32) * y14)), .ref y11]) (h' := h15) rfl ?_
      obtain ⟨e24, v22, h21, e23, hf⟩ := zo_v_s hf
      refine zr_cv zq_m222 [.int ((1 : Int32) + ((4 : Int32) * y14))] [] rfl rfl rfl rfl rfl (Nat.le_of_ble_eq_true rfl) (Nat.le_of_ble_eq_true rfl) e24 (zm_does_ok sc d (by omega) e23) ?_
      refine zq_wg 0 (pc' := 47) (lv' := [some (.ref y11), some (.int y12), some (.int y13), some (.int y14), none]) (st' := [.int v22]) (h' := h21) rfl ?_
      refine zq_wg 2 (pc' := 51) (lv' := [some (.ref y11), some (.int y12), some (.int y13), some (.int y14), some (.int v22)]) (st' := [.int v22]) (h' := h21) rfl ?_
      obtain ⟨j63_29, hjj63_29, hf⟩ := zo_lj hf
      have kj63_29 : ∀ (x25 : Nat) (x26 : Int32) (x27 : Int32) (x28 : Int32) (h29 : zH), j63_29 x25 x26 x27 x28 h29 = some (ro_, ho_) → zq_wp sc (d + 1) 221 63 [some (.ref x25), some (.int x26), none, some (.int x27), none] [.int x28] h29 (some (.int ro_), ho_) := by
        intro x25 x26 x27 x28 h29 hf
        rw [hjj63_29] at hf
        refine zq_wg 3 (pc' := 28) (lv' := [some (.ref x25), some (.int x26), some (.int x28), some (.int (x27 + (1 : Int32))), none]) (st' := []) (h' := h29) rfl ?_
        exact ih x25 x26 x28 (x27 + (1 : Int32)) h29 _ _ _ hk70 hf
      obtain ⟨j62_34, hjj62_34, hf⟩ := zo_lj hf
      have kj62_34 : ∀ (x30 : Nat) (x31 : Int32) (x32 : Int32) (x33 : Int32) (h34 : zH), j62_34 x30 x31 x32 x33 h34 = some (ro_, ho_) → zq_wp sc (d + 1) 221 62 [some (.ref x30), some (.int x31), some (.int x32), some (.int x33), none] [] h34 (some (.int ro_), ho_) := by
        intro x30 x31 x32 x33 h34 hf
        rw [hjj62_34] at hf
        refine zq_wg 1 (pc' := 63) (lv' := [some (.ref x30), some (.int x31), some (.int x32), some (.int x33), none]) (st' := [.int x32]) (h' := h34) rfl ?_
        refine zq_fg [some (.ref x30), some (.int x31), none, some (.int x33), none] (zq_lvle_s (zq_lvle_s (zq_lvle_n (zq_lvle_s (zq_lvle_s zq_lvle_nil))))) ?_
        exact kj63_29 x30 x31 x33 x32 h34 hf
      refine zr_if (v22 = 0) 54 62 (st' := []) rfl rfl (fun b35 => ?_) (fun b35 => ?_)
      · have hf := zo_t hf b35
        refine zq_wg 1 (pc' := 55) (lv' := [some (.ref y11), some (.int y12), some (.int y13), some (.int y14), some (.int v22)]) (st' := [.int y13]) (h' := h21) rfl ?_
        refine zr_if (0 ≤ y13) 62 58 (st' := []) rfl rfl (fun b36 => ?_) (fun b36 => ?_)
        · have hf := zo_t hf b36
          refine zq_fg [some (.ref y11), some (.int y12), some (.int y13), some (.int y14), none] (zq_lvle_s (zq_lvle_s (zq_lvle_s (zq_lvle_s (zq_lvle_n zq_lvle_nil))))) ?_
          exact kj62_34 y11 y12 y13 y14 h21 hf
        · have hf := zo_f hf b36
          refine zq_wg 2 (pc' := 63) (lv' := [some (.ref y11), some (.int y12), some (.int y13), some (.int y14), some (.int v22)]) (st' := [.int y14]) (h' := h21) rfl ?_
          refine zq_fg [some (.ref y11), some (.int y12), none, some (.int y14), none] (zq_lvle_s (zq_lvle_s (zq_lvle_n (zq_lvle_s (zq_lvle_n zq_lvle_nil))))) ?_
          exact kj63_29 y11 y12 y14 y14 h21 hf
      · have hf := zo_f hf b35
        refine zq_fg [some (.ref y11), some (.int y12), some (.int y13), some (.int y14), none] (zq_lvle_s (zq_lvle_s (zq_lvle_s (zq_lvle_s (zq_lvle_n zq_lvle_nil))))) ?_
        exact kj62_34 y11 y12 y13 y14 h21 hf
set_option maxRecDepth 4000 in
theorem zm_judged_ok (sc : zX) (d : Nat) (hd : 8 ≤ d) {a0 : Nat} {a1 : Int32} {h : zH} {ro_ : Int32} {ho_ : zH} (hf : zm_judged sc a0 a1 h = some (ro_, ho_)) : zq_wm sc d 221 [.ref a0, .int a1] h (some (.int ro_), ho_) := by
  unfold zm_judged at hf
  obtain ⟨d, rfl⟩ : ∃ d', d = d' + 1 := ⟨d - 1, by omega⟩
  have hd : 7 ≤ d := by omega
  show zq_wp sc (d + 1) 221 0 [some (.ref a0), some (.int a1), none, none, none] [] h _
  refine zq_wg 2 (pc' := 2) (lv' := [some (.ref a0), some (.int a1), none, none, none]) (st' := [.int (0 : Int32), .ref a0]) (h' := h) rfl ?_
  obtain ⟨h1, e2, hf⟩ := zo_b_s hf
  refine zr_pI rfl rfl (by decide) rfl rfl e2 ?_
  refine zq_wg 3 (pc' := 8) (lv' := [some (.ref a0), some (.int a1), none, none, none]) (st' := [.int (2 : Int32), .int (0 : Int32), .int a1]) (h' := h1) rfl ?_
  obtain ⟨v4, h3, e5, hf⟩ := zo_c_s hf
  refine zr_cs zq_m173 [.int a1, .int (0 : Int32), .int (2 : Int32)] [] rfl rfl (by decide) rfl rfl rfl (Nat.le_of_ble_eq_true rfl) (Nat.le_of_ble_eq_true rfl) (zm_within_ok sc d (by omega) e5) ?_
  refine zq_wg 0 (pc' := 11) (lv' := [some (.ref a0), some (.int a1), none, none, none]) (st' := [.int v4]) (h' := h3) rfl ?_
  refine zr_if (v4 = 0) 14 17 (st' := []) rfl rfl (fun b6 => ?_) (fun b6 => ?_)
  · have hf := zo_t hf b6
    refine zq_wg 1 (pc' := 16) (lv' := [some (.ref a0), some (.int a1), none, none, none]) (st' := [.int (-2 : Int32)]) (h' := h3) rfl ?_
    exact zr_ri rfl rfl rfl hf
  · have hf := zo_f hf b6
    refine zq_wg 2 (pc' := 21) (lv' := [some (.ref a0), some (.int a1), none, none, none]) (st' := [.int (840 : Int32), .ref a0]) (h' := h3) rfl ?_
    obtain ⟨e10, w8, h7, e9, hf⟩ := zo_v_s hf
    refine zr_cv zq_m150 [.int (840 : Int32)] [] rfl rfl rfl rfl rfl (Nat.le_of_ble_eq_true rfl) (Nat.le_of_ble_eq_true rfl) e10 (zm_starts_ok sc d (by omega) e9) ?_
    refine zq_wg 0 (pc' := 24) (lv' := [some (.ref a0), some (.int a1), none, none, none]) (st' := []) (h' := h7) rfl ?_
    refine zq_wg 4 (pc' := 28) (lv' := [some (.ref a0), some (.int a1), some (.int (-1 : Int32)), some (.int (0 : Int32)), none]) (st' := []) (h' := h7) rfl ?_
    refine zm_judged_l28_ok sc d hd zo_F a0 a1 (-1 : Int32) (0 : Int32) h7 _ _ _ ?_ hf
    · intro x37 x38 x39 h40 hf
      refine zq_wg 1 (pc' := 71) (lv' := [some (.ref x37), some (.int x38), some (.int x39), none, none]) (st' := [.int x38]) (h' := h40) rfl ?_
      refine zr_if (x38 = 0) 74 78 (st' := []) rfl rfl (fun b41 => ?_) (fun b41 => ?_)
      · have hf := zo_t hf b41
        refine zq_wg 2 (pc' := 102) (lv' := [some (.ref x37), some (.int x38), some (.int x39), none, none]) (st' := [.int x39]) (h' := h40) rfl ?_
        exact zr_ri rfl rfl rfl hf
      · have hf := zo_f hf b41
        refine zq_wg 2 (pc' := 80) (lv' := [some (.ref x37), some (.int x38), some (.int x39), none, none]) (st' := [.int (1 : Int32), .int x38]) (h' := h40) rfl ?_
        refine zr_if (x38 = (1 : Int32)) 83 94 (st' := []) rfl rfl (fun b42 => ?_) (fun b42 => ?_)
        · have hf := zo_t hf b42
          refine zq_wg 1 (pc' := 84) (lv' := [some (.ref x37), some (.int x38), some (.int x39), none, none]) (st' := [.ref x37]) (h' := h40) rfl ?_
          obtain ⟨v43, e44, hf⟩ := zo_b_s hf
          refine zr_gR rfl rfl (by decide) rfl e44 ?_
          refine zq_wg 1 (pc' := 90) (lv' := [some (.ref x37), some (.int x38), some (.int x39), none, none]) (st' := [.int (841 : Int32), .ref v43]) (h' := h40) rfl ?_
          obtain ⟨v45, e46, hf⟩ := zo_b_s hf
          refine zr_iald rfl e46 ?_
          refine zq_wg 1 (pc' := 102) (lv' := [some (.ref x37), some (.int x38), some (.int x39), none, none]) (st' := [.int v45]) (h' := h40) rfl ?_
          exact zr_ri rfl rfl rfl hf
        · have hf := zo_f hf b42
          refine zq_wg 1 (pc' := 95) (lv' := [some (.ref x37), some (.int x38), some (.int x39), none, none]) (st' := [.ref x37]) (h' := h40) rfl ?_
          obtain ⟨v47, e48, hf⟩ := zo_b_s hf
          refine zr_gR rfl rfl (by decide) rfl e48 ?_
          refine zq_wg 1 (pc' := 101) (lv' := [some (.ref x37), some (.int x38), some (.int x39), none, none]) (st' := [.int (840 : Int32), .ref v47]) (h' := h40) rfl ?_
          obtain ⟨v49, e50, hf⟩ := zo_b_s hf
          refine zr_iald rfl e50 ?_
          exact zr_ri rfl rfl rfl hf
set_option maxRecDepth 4000 in
def zm_first_l12 (sc : zX) : Nat → Nat → Int32 → zH → Option (Int32 × zH)
  | 0, _, _, _ => none
  | n + 1, y7, y8, h9 => zo_v h9 y7 10 (zm_posts sc y7 h9) (fun v11 h10 => if v11 ≤ y8 then (some ((-1 : Int32), h10)) else (zo_v h10 y7 10 (zm_postOf sc y7 y8 (2 : Int32) h10) (fun v16 h15 => zo_b (zo_gR h15 10 y7 29) (fun v19 => zo_b (zq_rdI sc h15 v19 y8) (fun v21 => zo_l (fun (x23 : Nat) (x24 : Int32) (h25 : zH) => zm_first_l12 sc n x23 (x24 + (1 : Int32)) h25 ) (fun j63_25 => if v21 < 0 then (j63_25 y7 y8 h15) else (zo_v h15 y7 10 (zm_doesObey sc y7 y8 h15) (fun v28 h27 => if v28 = 0 then (zo_b (zo_gR h27 10 y7 29) (fun v32 => zo_b (zq_rdI sc h27 v32 v16) (fun v34 => if v34 < 0 then (some (y8, h27)) else (zo_v h27 y7 10 (zm_doesObey sc y7 v16 h27) (fun v38 h37 => if v38 = 0 then (j63_25 y7 y8 h37) else (some (y8, h37))))))) else (j63_25 y7 y8 h27)))))))))
set_option maxRecDepth 4000 in
def zm_first (sc : zX) (a0 : Nat) (h : zH) : Option (Int32 × zH) := zo_b (zo_pI h 10 a0 0 (0 : Int32)) (fun h1 => zo_v h1 a0 10 (zm_laysHeld sc a0 (0 : Int32) h1) (fun w4 h3 => zm_first_l12 sc zo_F a0 (0 : Int32) h3 ))
set_option maxRecDepth 4000 in
theorem zm_first_l12_ok (sc : zX) (d : Nat) (hd : 4 ≤ d) : ∀ (n : Nat) (y7 : Nat) (y8 : Int32) (h9 : zH) (ro_ : Int32) (ho_ : zH),  zm_first_l12 sc n y7 y8 h9  = some (ro_, ho_) → zq_wp sc (d + 1) 223 12 [some (.ref y7), some (.int y8), none] [] h9 (some (.int ro_), ho_) := by
  intro n
  induction n with
  | zero => intro y7 y8 h9 ro_ ho_ hf; cases hf
  | succ n ih =>
    intro y7 y8 h9 ro_ ho_ hf
    refine zq_wg 2 (pc' := 14) (lv' := [some (.ref y7), some (.int y8), none]) (st' := [.ref y7, .int y8]) (h' := h9) rfl ?_
    obtain ⟨e13, v11, h10, e12, hf⟩ := zo_v_s hf
    refine zr_cv zq_m151 [] [.int y8] rfl rfl rfl rfl rfl (Nat.le_of_ble_eq_true rfl) (Nat.le_of_ble_eq_true rfl) e13 (zm_posts_ok sc d (by omega) e12) ?_
    refine zq_wg 0 (pc' := 17) (lv' := [some (.ref y7), some (.int y8), none]) (st' := [.int v11, .int y8]) (h' := h10) rfl ?_
    refine zr_if (v11 ≤ y8) 69 20 (st' := []) rfl rfl (fun b14 => ?_) (fun b14 => ?_)
    · have hf := zo_t hf b14
      refine zq_wg 1 (pc' := 70) (lv' := [some (.ref y7), some (.int y8), none]) (st' := [.int (-1 : Int32)]) (h' := h10) rfl ?_
      exact zr_ri rfl rfl rfl hf
    · have hf := zo_f hf b14
      refine zq_wg 3 (pc' := 23) (lv' := [some (.ref y7), some (.int y8), none]) (st' := [.int (2 : Int32), .int y8, .ref y7]) (h' := h10) rfl ?_
      obtain ⟨e18, v16, h15, e17, hf⟩ := zo_v_s hf
      refine zr_cv zq_m193 [.int y8, .int (2 : Int32)] [] rfl rfl rfl rfl rfl (Nat.le_of_ble_eq_true rfl) (Nat.le_of_ble_eq_true rfl) e18 (zm_postOf_ok sc d (by omega) e17) ?_
      refine zq_wg 0 (pc' := 26) (lv' := [some (.ref y7), some (.int y8), none]) (st' := [.int v16]) (h' := h15) rfl ?_
      refine zq_wg 2 (pc' := 28) (lv' := [some (.ref y7), some (.int y8), some (.int v16)]) (st' := [.ref y7]) (h' := h15) rfl ?_
      obtain ⟨v19, e20, hf⟩ := zo_b_s hf
      refine zr_gR rfl rfl (by decide) rfl e20 ?_
      refine zq_wg 1 (pc' := 32) (lv' := [some (.ref y7), some (.int y8), some (.int v16)]) (st' := [.int y8, .ref v19]) (h' := h15) rfl ?_
      obtain ⟨v21, e22, hf⟩ := zo_b_s hf
      refine zr_iald rfl e22 ?_
      obtain ⟨j63_25, hjj63_25, hf⟩ := zo_lj hf
      have kj63_25 : ∀ (x23 : Nat) (x24 : Int32) (h25 : zH), j63_25 x23 x24 h25 = some (ro_, ho_) → zq_wp sc (d + 1) 223 63 [some (.ref x23), some (.int x24), none] [] h25 (some (.int ro_), ho_) := by
        intro x23 x24 h25 hf
        rw [hjj63_25] at hf
        refine zq_wg 2 (pc' := 12) (lv' := [some (.ref x23), some (.int (x24 + (1 : Int32))), none]) (st' := []) (h' := h25) rfl ?_
        exact ih x23 (x24 + (1 : Int32)) h25 _ _ hf
      refine zr_if (v21 < 0) 63 36 (st' := []) rfl rfl (fun b26 => ?_) (fun b26 => ?_)
      · have hf := zo_t hf b26
        refine zq_fg [some (.ref y7), some (.int y8), none] (zq_lvle_s (zq_lvle_s (zq_lvle_n zq_lvle_nil))) ?_
        exact kj63_25 y7 y8 h15 hf
      · have hf := zo_f hf b26
        refine zq_wg 2 (pc' := 38) (lv' := [some (.ref y7), some (.int y8), some (.int v16)]) (st' := [.int y8, .ref y7]) (h' := h15) rfl ?_
        obtain ⟨e30, v28, h27, e29, hf⟩ := zo_v_s hf
        refine zr_cv zq_m196 [.int y8] [] rfl rfl rfl rfl rfl (Nat.le_of_ble_eq_true rfl) (Nat.le_of_ble_eq_true rfl) e30 (zm_doesObey_ok sc d (by omega) e29) ?_
        refine zq_wg 0 (pc' := 41) (lv' := [some (.ref y7), some (.int y8), some (.int v16)]) (st' := [.int v28]) (h' := h27) rfl ?_
        refine zr_if (v28 = 0) 44 63 (st' := []) rfl rfl (fun b31 => ?_) (fun b31 => ?_)
        · have hf := zo_t hf b31
          refine zq_wg 1 (pc' := 45) (lv' := [some (.ref y7), some (.int y8), some (.int v16)]) (st' := [.ref y7]) (h' := h27) rfl ?_
          obtain ⟨v32, e33, hf⟩ := zo_b_s hf
          refine zr_gR rfl rfl (by decide) rfl e33 ?_
          refine zq_wg 1 (pc' := 49) (lv' := [some (.ref y7), some (.int y8), some (.int v16)]) (st' := [.int v16, .ref v32]) (h' := h27) rfl ?_
          obtain ⟨v34, e35, hf⟩ := zo_b_s hf
          refine zr_iald rfl e35 ?_
          refine zr_if (v34 < 0) 61 53 (st' := []) rfl rfl (fun b36 => ?_) (fun b36 => ?_)
          · have hf := zo_t hf b36
            refine zq_wg 1 (pc' := 62) (lv' := [some (.ref y7), some (.int y8), some (.int v16)]) (st' := [.int y8]) (h' := h27) rfl ?_
            exact zr_ri rfl rfl rfl hf
          · have hf := zo_f hf b36
            refine zq_wg 2 (pc' := 55) (lv' := [some (.ref y7), some (.int y8), some (.int v16)]) (st' := [.int v16, .ref y7]) (h' := h27) rfl ?_
            obtain ⟨e40, v38, h37, e39, hf⟩ := zo_v_s hf
            refine zr_cv zq_m196 [.int v16] [] rfl rfl rfl rfl rfl (Nat.le_of_ble_eq_true rfl) (Nat.le_of_ble_eq_true rfl) e40 (zm_doesObey_ok sc d (by omega) e39) ?_
            refine zq_wg 0 (pc' := 58) (lv' := [some (.ref y7), some (.int y8), some (.int v16)]) (st' := [.int v38]) (h' := h37) rfl ?_
            refine zr_if (v38 = 0) 63 61 (st' := []) rfl rfl (fun b41 => ?_) (fun b41 => ?_)
            · have hf := zo_t hf b41
              refine zq_fg [some (.ref y7), some (.int y8), none] (zq_lvle_s (zq_lvle_s (zq_lvle_n zq_lvle_nil))) ?_
              exact kj63_25 y7 y8 h37 hf
            · have hf := zo_f hf b41
              refine zq_wg 1 (pc' := 62) (lv' := [some (.ref y7), some (.int y8), some (.int v16)]) (st' := [.int y8]) (h' := h37) rfl ?_
              exact zr_ri rfl rfl rfl hf
        · have hf := zo_f hf b31
          refine zq_fg [some (.ref y7), some (.int y8), none] (zq_lvle_s (zq_lvle_s (zq_lvle_n zq_lvle_nil))) ?_
          exact kj63_25 y7 y8 h27 hf
set_option maxRecDepth 4000 in
theorem zm_first_ok (sc : zX) (d : Nat) (hd : 5 ≤ d) {a0 : Nat} {h : zH} {ro_ : Int32} {ho_ : zH} (hf : zm_first sc a0 h = some (ro_, ho_)) : zq_wm sc d 223 [.ref a0] h (some (.int ro_), ho_) := by
  unfold zm_first at hf
  obtain ⟨d, rfl⟩ : ∃ d', d = d' + 1 := ⟨d - 1, by omega⟩
  have hd : 4 ≤ d := by omega
  show zq_wp sc (d + 1) 223 0 [some (.ref a0), none, none] [] h _
  refine zq_wg 2 (pc' := 2) (lv' := [some (.ref a0), none, none]) (st' := [.int (0 : Int32), .ref a0]) (h' := h) rfl ?_
  obtain ⟨h1, e2, hf⟩ := zo_b_s hf
  refine zr_pI rfl rfl (by decide) rfl rfl e2 ?_
  refine zq_wg 2 (pc' := 7) (lv' := [some (.ref a0), none, none]) (st' := [.int (0 : Int32), .ref a0]) (h' := h1) rfl ?_
  obtain ⟨e6, w4, h3, e5, hf⟩ := zo_v_s hf
  refine zr_cv zq_m189 [.int (0 : Int32)] [] rfl rfl rfl rfl rfl (Nat.le_of_ble_eq_true rfl) (Nat.le_of_ble_eq_true rfl) e6 (zm_laysHeld_ok sc d (by omega) e5) ?_
  refine zq_wg 0 (pc' := 10) (lv' := [some (.ref a0), none, none]) (st' := []) (h' := h3) rfl ?_
  refine zq_wg 2 (pc' := 12) (lv' := [some (.ref a0), some (.int (0 : Int32)), none]) (st' := []) (h' := h3) rfl ?_
  refine zm_first_l12_ok sc d hd zo_F a0 (0 : Int32) h3 _ _ hf
set_option maxRecDepth 4000 in
def zm_looks_l37 (sc : zX) : Nat → Nat → Int32 → Int32 → zH → (Nat → Int32 → zH → Option (Unit × zH)) → Option (Unit × zH)
  | 0, _, _, _, _, _ => none
  | n + 1, y29, y30, y31, h32, k61 => if (6 : Int32) ≤ y31 then (k61 y29 y30 h32) else (zo_b (zo_gR h32 10 y29 35) (fun v34 => zo_b (zo_gR h32 10 y29 29) (fun v36 => zo_b (zq_rdI sc h32 v36 y31) (fun v38 => zo_b (zq_wrX 1 h32 v34 y31 v38) (fun h40 => zm_looks_l37 sc n y29 y30 (y31 + (1 : Int32)) h40 k61)))))
set_option maxRecDepth 4000 in
def zm_looks (sc : zX) (a0 : Nat) (h : zH) : Option (Unit × zH) := zo_v h a0 10 (zm_oursNow sc a0 h) (fun v2 h1 => zo_b (zo_gR h1 10 a0 36) (fun v5 => zo_b (zo_gI h1 10 a0 32) (fun v7 => zo_b (zq_wrX 1 h1 v5 v7 v2) (fun h9 => zo_b (zo_gI h9 10 a0 32) (fun v11 => zo_l (fun (x13 : Nat) (x14 : Int32) (h15 : zH) => zo_b (zo_gL h15 10 x13 33) (fun v16 => zo_b (zo_pL h15 10 x13 33 (v16 + x14.toInt64)) (fun h18 => zo_b (zo_gI h18 10 x13 32) (fun v20 => zo_b (zo_pI h18 10 x13 32 (v20 + (1 : Int32))) (fun h22 => some ((), h22)))))) (fun j61_15 => zo_l (fun (x24 : Nat) (x25 : Int32) (h26 : zH) => zo_b (zo_pI h26 10 x24 34 x25) (fun h27 => zm_looks_l37 sc zo_F x24 x25 (0 : Int32) h27 (fun (x42 : Nat) (x43 : Int32) (h44 : zH) => j61_15 x42 x43 h44))) (fun j30_26 => if v11 = 0 then (j30_26 a0 v2 h9) else (zo_b (zo_gI h9 10 a0 34) (fun v46 => if v2 ≤ v46 then (j61_15 a0 v2 h9) else (j30_26 a0 v2 h9))))))))))
set_option maxRecDepth 4000 in
theorem zm_looks_l37_ok (sc : zX) (d : Nat) (hd : 2 ≤ d) : ∀ (n : Nat) (y29 : Nat) (y30 : Int32) (y31 : Int32) (h32 : zH) (k61 : Nat → Int32 → zH → Option (Unit × zH)) (ro_ : Unit) (ho_ : zH), (∀ (z0 : Nat) (z1 : Int32) (hz : zH), k61 z0 z1 hz = some (ro_, ho_) → zq_wp sc (d + 1) 227 61 [some (.ref z0), some (.int z1), none] [] hz (none, ho_)) → zm_looks_l37 sc n y29 y30 y31 h32 k61 = some (ro_, ho_) → zq_wp sc (d + 1) 227 37 [some (.ref y29), some (.int y30), some (.int y31)] [] h32 (none, ho_) := by
  intro n
  induction n with
  | zero => intro y29 y30 y31 h32 k61 ro_ ho_ hk61 hf; cases hf
  | succ n ih =>
    intro y29 y30 y31 h32 k61 ro_ ho_ hk61 hf
    refine zq_wg 2 (pc' := 40) (lv' := [some (.ref y29), some (.int y30), some (.int y31)]) (st' := [.int (6 : Int32), .int y31]) (h' := h32) rfl ?_
    refine zr_if ((6 : Int32) ≤ y31) 61 43 (st' := []) rfl rfl (fun b33 => ?_) (fun b33 => ?_)
    · have hf := zo_t hf b33
      refine zq_fg [some (.ref y29), some (.int y30), none] (zq_lvle_s (zq_lvle_s (zq_lvle_n zq_lvle_nil))) ?_
      exact hk61 y29 y30 h32 hf
    · have hf := zo_f hf b33
      refine zq_wg 1 (pc' := 44) (lv' := [some (.ref y29), some (.int y30), some (.int y31)]) (st' := [.ref y29]) (h' := h32) rfl ?_
      obtain ⟨v34, e35, hf⟩ := zo_b_s hf
      refine zr_gR rfl rfl (by decide) rfl e35 ?_
      refine zq_wg 2 (pc' := 49) (lv' := [some (.ref y29), some (.int y30), some (.int y31)]) (st' := [.ref y29, .int y31, .ref v34]) (h' := h32) rfl ?_
      obtain ⟨v36, e37, hf⟩ := zo_b_s hf
      refine zr_gR rfl rfl (by decide) rfl e37 ?_
      refine zq_wg 1 (pc' := 53) (lv' := [some (.ref y29), some (.int y30), some (.int y31)]) (st' := [.int y31, .ref v36, .int y31, .ref v34]) (h' := h32) rfl ?_
      obtain ⟨v38, e39, hf⟩ := zo_b_s hf
      refine zr_iald rfl e39 ?_
      obtain ⟨h40, e41, hf⟩ := zo_b_s hf
      refine zr_iast rfl e41 ?_
      refine zq_wg 2 (pc' := 37) (lv' := [some (.ref y29), some (.int y30), some (.int (y31 + (1 : Int32)))]) (st' := []) (h' := h40) rfl ?_
      exact ih y29 y30 (y31 + (1 : Int32)) h40 _ _ _ hk61 hf
set_option maxRecDepth 4000 in
theorem zm_looks_ok (sc : zX) (d : Nat) (hd : 3 ≤ d) {a0 : Nat} {h : zH} {ro_ : Unit} {ho_ : zH} (hf : zm_looks sc a0 h = some (ro_, ho_)) : zq_wm sc d 227 [.ref a0] h (none, ho_) := by
  unfold zm_looks at hf
  obtain ⟨d, rfl⟩ : ∃ d', d = d' + 1 := ⟨d - 1, by omega⟩
  have hd : 2 ≤ d := by omega
  show zq_wp sc (d + 1) 227 0 [some (.ref a0), none, none] [] h _
  refine zq_wg 1 (pc' := 1) (lv' := [some (.ref a0), none, none]) (st' := [.ref a0]) (h' := h) rfl ?_
  obtain ⟨e4, v2, h1, e3, hf⟩ := zo_v_s hf
  refine zr_cv zq_m203 [] [] rfl rfl rfl rfl rfl (Nat.le_of_ble_eq_true rfl) (Nat.le_of_ble_eq_true rfl) e4 (zm_oursNow_ok sc d (by omega) e3) ?_
  refine zq_wg 0 (pc' := 4) (lv' := [some (.ref a0), none, none]) (st' := [.int v2]) (h' := h1) rfl ?_
  refine zq_wg 2 (pc' := 6) (lv' := [some (.ref a0), some (.int v2), none]) (st' := [.ref a0]) (h' := h1) rfl ?_
  obtain ⟨v5, e6, hf⟩ := zo_b_s hf
  refine zr_gR rfl rfl (by decide) rfl e6 ?_
  refine zq_wg 1 (pc' := 10) (lv' := [some (.ref a0), some (.int v2), none]) (st' := [.ref a0, .ref v5]) (h' := h1) rfl ?_
  obtain ⟨v7, e8, hf⟩ := zo_b_s hf
  refine zr_gI rfl rfl (by decide) rfl e8 ?_
  refine zq_wg 1 (pc' := 14) (lv' := [some (.ref a0), some (.int v2), none]) (st' := [.int v2, .int v7, .ref v5]) (h' := h1) rfl ?_
  obtain ⟨h9, e10, hf⟩ := zo_b_s hf
  refine zr_iast rfl e10 ?_
  refine zq_wg 1 (pc' := 16) (lv' := [some (.ref a0), some (.int v2), none]) (st' := [.ref a0]) (h' := h9) rfl ?_
  obtain ⟨v11, e12, hf⟩ := zo_b_s hf
  refine zr_gI rfl rfl (by decide) rfl e12 ?_
  obtain ⟨j61_15, hjj61_15, hf⟩ := zo_lj hf
  have kj61_15 : ∀ (x13 : Nat) (x14 : Int32) (h15 : zH), j61_15 x13 x14 h15 = some (ro_, ho_) → zq_wp sc (d + 1) 227 61 [some (.ref x13), some (.int x14), none] [] h15 (none, ho_) := by
    intro x13 x14 h15 hf
    rw [hjj61_15] at hf
    refine zq_wg 2 (pc' := 63) (lv' := [some (.ref x13), some (.int x14), none]) (st' := [.ref x13, .ref x13]) (h' := h15) rfl ?_
    obtain ⟨v16, e17, hf⟩ := zo_b_s hf
    refine zr_gL rfl rfl (by decide) rfl e17 ?_
    refine zq_wg 3 (pc' := 69) (lv' := [some (.ref x13), some (.int x14), none]) (st' := [.long (v16 + x14.toInt64), .ref x13]) (h' := h15) rfl ?_
    obtain ⟨h18, e19, hf⟩ := zo_b_s hf
    refine zr_pL rfl rfl (by decide) rfl rfl e19 ?_
    refine zq_wg 2 (pc' := 74) (lv' := [some (.ref x13), some (.int x14), none]) (st' := [.ref x13, .ref x13]) (h' := h18) rfl ?_
    obtain ⟨v20, e21, hf⟩ := zo_b_s hf
    refine zr_gI rfl rfl (by decide) rfl e21 ?_
    refine zq_wg 2 (pc' := 79) (lv' := [some (.ref x13), some (.int x14), none]) (st' := [.int (v20 + (1 : Int32)), .ref x13]) (h' := h18) rfl ?_
    obtain ⟨h22, e23, hf⟩ := zo_b_s hf
    refine zr_pI rfl rfl (by decide) rfl rfl e23 ?_
    exact zr_rv rfl rfl hf
  obtain ⟨j30_26, hjj30_26, hf⟩ := zo_lj hf
  have kj30_26 : ∀ (x24 : Nat) (x25 : Int32) (h26 : zH), j30_26 x24 x25 h26 = some (ro_, ho_) → zq_wp sc (d + 1) 227 30 [some (.ref x24), some (.int x25), none] [] h26 (none, ho_) := by
    intro x24 x25 h26 hf
    rw [hjj30_26] at hf
    refine zq_wg 2 (pc' := 32) (lv' := [some (.ref x24), some (.int x25), none]) (st' := [.int x25, .ref x24]) (h' := h26) rfl ?_
    obtain ⟨h27, e28, hf⟩ := zo_b_s hf
    refine zr_pI rfl rfl (by decide) rfl rfl e28 ?_
    refine zq_wg 2 (pc' := 37) (lv' := [some (.ref x24), some (.int x25), some (.int (0 : Int32))]) (st' := []) (h' := h27) rfl ?_
    refine zm_looks_l37_ok sc d hd zo_F x24 x25 (0 : Int32) h27 _ _ _ ?_ hf
    · intro x42 x43 h44 hf
      exact kj61_15 x42 x43 h44 hf
  refine zr_if (v11 = 0) 30 22 (st' := []) rfl rfl (fun b45 => ?_) (fun b45 => ?_)
  · have hf := zo_t hf b45
    exact kj30_26 a0 v2 h9 hf
  · have hf := zo_f hf b45
    refine zq_wg 2 (pc' := 24) (lv' := [some (.ref a0), some (.int v2), none]) (st' := [.ref a0, .int v2]) (h' := h9) rfl ?_
    obtain ⟨v46, e47, hf⟩ := zo_b_s hf
    refine zr_gI rfl rfl (by decide) rfl e47 ?_
    refine zr_if (v2 ≤ v46) 61 30 (st' := []) rfl rfl (fun b48 => ?_) (fun b48 => ?_)
    · have hf := zo_t hf b48
      exact kj61_15 a0 v2 h9 hf
    · have hf := zo_f hf b48
      exact kj30_26 a0 v2 h9 hf
set_option maxRecDepth 4000 in
def zm_fewer (sc : zX) (a0 : Nat) (h : zH) : Option (Int32 × zH) := zo_v h a0 10 (zm_posts sc a0 h) (fun v2 h1 => zo_v h1 a0 10 (zm_men sc a0 h1) (fun v6 h5 => if v6 ≤ v2 then (zo_v h5 a0 10 (zm_men sc a0 h5) (fun v11 h10 => some (v11, h10))) else (zo_v h5 a0 10 (zm_posts sc a0 h5) (fun v15 h14 => some (v15, h14)))))
set_option maxRecDepth 4000 in
theorem zm_fewer_ok (sc : zX) (d : Nat) (hd : 1 ≤ d) {a0 : Nat} {h : zH} {ro_ : Int32} {ho_ : zH} (hf : zm_fewer sc a0 h = some (ro_, ho_)) : zq_wm sc d 228 [.ref a0] h (some (.int ro_), ho_) := by
  unfold zm_fewer at hf
  obtain ⟨d, rfl⟩ : ∃ d', d = d' + 1 := ⟨d - 1, by omega⟩
  have hd : 0 ≤ d := by omega
  show zq_wp sc (d + 1) 228 0 [some (.ref a0)] [] h _
  refine zq_wg 1 (pc' := 1) (lv' := [some (.ref a0)]) (st' := [.ref a0]) (h' := h) rfl ?_
  obtain ⟨e4, v2, h1, e3, hf⟩ := zo_v_s hf
  refine zr_cv zq_m151 [] [] rfl rfl rfl rfl rfl (Nat.le_of_ble_eq_true rfl) (Nat.le_of_ble_eq_true rfl) e4 (zm_posts_ok sc d (by omega) e3) ?_
  refine zq_wg 0 (pc' := 4) (lv' := [some (.ref a0)]) (st' := [.int v2]) (h' := h1) rfl ?_
  refine zq_wg 1 (pc' := 5) (lv' := [some (.ref a0)]) (st' := [.ref a0, .int v2]) (h' := h1) rfl ?_
  obtain ⟨e8, v6, h5, e7, hf⟩ := zo_v_s hf
  refine zr_cv zq_m152 [] [.int v2] rfl rfl rfl rfl rfl (Nat.le_of_ble_eq_true rfl) (Nat.le_of_ble_eq_true rfl) e8 (zm_men_ok sc d (by omega) e7) ?_
  refine zq_wg 0 (pc' := 8) (lv' := [some (.ref a0)]) (st' := [.int v6, .int v2]) (h' := h5) rfl ?_
  refine zr_if (v6 ≤ v2) 18 11 (st' := []) rfl rfl (fun b9 => ?_) (fun b9 => ?_)
  · have hf := zo_t hf b9
    refine zq_wg 1 (pc' := 19) (lv' := [some (.ref a0)]) (st' := [.ref a0]) (h' := h5) rfl ?_
    obtain ⟨e13, v11, h10, e12, hf⟩ := zo_v_s hf
    refine zr_cv zq_m152 [] [] rfl rfl rfl rfl rfl (Nat.le_of_ble_eq_true rfl) (Nat.le_of_ble_eq_true rfl) e13 (zm_men_ok sc d (by omega) e12) ?_
    refine zq_wg 0 (pc' := 22) (lv' := [some (.ref a0)]) (st' := [.int v11]) (h' := h10) rfl ?_
    exact zr_ri rfl rfl rfl hf
  · have hf := zo_f hf b9
    refine zq_wg 1 (pc' := 12) (lv' := [some (.ref a0)]) (st' := [.ref a0]) (h' := h5) rfl ?_
    obtain ⟨e17, v15, h14, e16, hf⟩ := zo_v_s hf
    refine zr_cv zq_m151 [] [] rfl rfl rfl rfl rfl (Nat.le_of_ble_eq_true rfl) (Nat.le_of_ble_eq_true rfl) e17 (zm_posts_ok sc d (by omega) e16) ?_
    refine zq_wg 0 (pc' := 15) (lv' := [some (.ref a0)]) (st' := [.int v15]) (h' := h14) rfl ?_
    refine zq_wg 1 (pc' := 22) (lv' := [some (.ref a0)]) (st' := [.int v15]) (h' := h14) rfl ?_
    exact zr_ri rfl rfl rfl hf
set_option maxRecDepth 4000 in
def zm_gives_l16 (sc : zX) (rec : Nat → Int32 → Int32 → Int32 → zH → Option (Unit × zH)) : Nat → Nat → Int32 → Int32 → Int32 → Int32 → zH → (Nat → Int32 → Int32 → Int32 → zH → Option (Unit × zH)) → Option (Unit × zH)
  | 0, _, _, _, _, _, _, _ => none
  | n + 1, y10, y11, y12, y13, y14, h15, k72 => zo_v h15 y10 10 (zm_men sc y10 h15) (fun v17 h16 => if v17 ≤ y14 then (k72 y10 y11 y12 y13 h16) else (zo_l (fun (x21 : Nat) (x22 : Int32) (x23 : Int32) (x24 : Int32) (x25 : Int32) (h26 : zH) => zm_gives_l16 sc rec n x21 x22 x23 x24 (x25 + (1 : Int32)) h26 k72) (fun j66_26 => if ((y12 >>> (y14 &&& 31)) &&& (1 : Int32)) = 0 then (zo_v h16 y10 10 (zm_fewer sc y10 h16) (fun v29 h28 => if v29 ≤ y13 then (j66_26 y10 y11 y12 y13 y14 h28) else (zo_b (zo_gR h28 10 y10 29) (fun v33 => zo_b (zq_wrX 1 h28 v33 y11 y14) (fun h35 => zo_v h35 y10 10 (rec y10 (y11 + (1 : Int32)) (y12 ||| ((1 : Int32) <<< (y14 &&& 31))) (y13 + (1 : Int32)) h35) (fun w38 h37 => j66_26 y10 y11 y12 y13 y14 h37)))))) else (j66_26 y10 y11 y12 y13 y14 h16))))
set_option maxRecDepth 4000 in
def zm_gives_b (sc : zX) (rec : Nat → Int32 → Int32 → Int32 → zH → Option (Unit × zH)) (a0 : Nat) (a1 : Int32) (a2 : Int32) (a3 : Int32) (h : zH) : Option (Unit × zH) := zo_v h a0 10 (zm_posts sc a0 h) (fun v2 h1 => if a1 = v2 then (zo_v h1 a0 10 (zm_looks sc a0 h1) (fun w7 h6 => some ((), h6))) else (zm_gives_l16 sc rec zo_F a0 a1 a2 a3 (0 : Int32) h1 (fun (x41 : Nat) (x42 : Int32) (x43 : Int32) (x44 : Int32) (h45 : zH) => zo_b (zo_gR h45 10 x41 29) (fun v46 => zo_b (zq_wrX 1 h45 v46 x42 (-1 : Int32)) (fun h48 => zo_v h48 x41 10 (zm_fewer sc x41 h48) (fun v51 h50 => zo_v h50 x41 10 (zm_posts sc x41 h50) (fun v55 h54 => if ((v55 - x42) - (1 : Int32)) < (v51 - x44) then (some ((), h54)) else (zo_v h54 x41 10 (rec x41 (x42 + (1 : Int32)) x43 x44 h54) (fun w60 h59 => some ((), h59))))))))))
set_option maxRecDepth 4000 in
theorem zm_gives_l16_ok (sc : zX) (d : Nat) (hd : 3 ≤ d) (rec : Nat → Int32 → Int32 → Int32 → zH → Option (Unit × zH)) (hrec : ∀ (z0 : Nat) (z1 : Int32) (z2 : Int32) (z3 : Int32) (hz : zH) (rz : Unit) (hy : zH), rec z0 z1 z2 z3 hz = some (rz, hy) → zq_wm sc d 226 [.ref z0, .int z1, .int z2, .int z3] hz (none, hy)) : ∀ (n : Nat) (y10 : Nat) (y11 : Int32) (y12 : Int32) (y13 : Int32) (y14 : Int32) (h15 : zH) (k72 : Nat → Int32 → Int32 → Int32 → zH → Option (Unit × zH)) (ro_ : Unit) (ho_ : zH), (∀ (z0 : Nat) (z1 : Int32) (z2 : Int32) (z3 : Int32) (hz : zH), k72 z0 z1 z2 z3 hz = some (ro_, ho_) → zq_wp sc (d + 1) 226 72 [some (.ref z0), some (.int z1), some (.int z2), some (.int z3), none] [] hz (none, ho_)) → zm_gives_l16 sc rec n y10 y11 y12 y13 y14 h15 k72 = some (ro_, ho_) → zq_wp sc (d + 1) 226 16 [some (.ref y10), some (.int y11), some (.int y12), some (.int y13), some (.int y14)] [] h15 (none, ho_) := by
  intro n
  induction n with
  | zero => intro y10 y11 y12 y13 y14 h15 k72 ro_ ho_ hk72 hf; cases hf
  | succ n ih =>
    intro y10 y11 y12 y13 y14 h15 k72 ro_ ho_ hk72 hf
    refine zq_wg 2 (pc' := 19) (lv' := [some (.ref y10), some (.int y11), some (.int y12), some (.int y13), some (.int y14)]) (st' := [.ref y10, .int y14]) (h' := h15) rfl ?_
    obtain ⟨e19, v17, h16, e18, hf⟩ := zo_v_s hf
    refine zr_cv zq_m152 [] [.int y14] rfl rfl rfl rfl rfl (Nat.le_of_ble_eq_true rfl) (Nat.le_of_ble_eq_true rfl) e19 (zm_men_ok sc d (by omega) e18) ?_
    refine zq_wg 0 (pc' := 22) (lv' := [some (.ref y10), some (.int y11), some (.int y12), some (.int y13), some (.int y14)]) (st' := [.int v17, .int y14]) (h' := h16) rfl ?_
    refine zr_if (v17 ≤ y14) 72 25 (st' := []) rfl rfl (fun b20 => ?_) (fun b20 => ?_)
    · have hf := zo_t hf b20
      refine zq_fg [some (.ref y10), some (.int y11), some (.int y12), some (.int y13), none] (zq_lvle_s (zq_lvle_s (zq_lvle_s (zq_lvle_s (zq_lvle_n zq_lvle_nil))))) ?_
      exact hk72 y10 y11 y12 y13 h16 hf
    · have hf := zo_f hf b20
      refine zq_wg 5 (pc' := 31) (lv' := [some (.ref y10), some (.int y11), some (.int y12), some (.int y13), some (.int y14)]) (st' := [.int ((y12 >>> (y14 &&& 31)) &&& (1 : Int32))]) (h' := h16) rfl ?_
      obtain ⟨j66_26, hjj66_26, hf⟩ := zo_lj hf
      have kj66_26 : ∀ (x21 : Nat) (x22 : Int32) (x23 : Int32) (x24 : Int32) (x25 : Int32) (h26 : zH), j66_26 x21 x22 x23 x24 x25 h26 = some (ro_, ho_) → zq_wp sc (d + 1) 226 66 [some (.ref x21), some (.int x22), some (.int x23), some (.int x24), some (.int x25)] [] h26 (none, ho_) := by
        intro x21 x22 x23 x24 x25 h26 hf
        rw [hjj66_26] at hf
        refine zq_wg 2 (pc' := 16) (lv' := [some (.ref x21), some (.int x22), some (.int x23), some (.int x24), some (.int (x25 + (1 : Int32)))]) (st' := []) (h' := h26) rfl ?_
        exact ih x21 x22 x23 x24 (x25 + (1 : Int32)) h26 _ _ _ hk72 hf
      refine zr_if (((y12 >>> (y14 &&& 31)) &&& (1 : Int32)) = 0) 34 66 (st' := []) rfl rfl (fun b27 => ?_) (fun b27 => ?_)
      · have hf := zo_t hf b27
        refine zq_wg 2 (pc' := 36) (lv' := [some (.ref y10), some (.int y11), some (.int y12), some (.int y13), some (.int y14)]) (st' := [.ref y10, .int y13]) (h' := h16) rfl ?_
        obtain ⟨e31, v29, h28, e30, hf⟩ := zo_v_s hf
        refine zr_cv zq_m228 [] [.int y13] rfl rfl rfl rfl rfl (Nat.le_of_ble_eq_true rfl) (Nat.le_of_ble_eq_true rfl) e31 (zm_fewer_ok sc d (by omega) e30) ?_
        refine zq_wg 0 (pc' := 39) (lv' := [some (.ref y10), some (.int y11), some (.int y12), some (.int y13), some (.int y14)]) (st' := [.int v29, .int y13]) (h' := h28) rfl ?_
        refine zr_if (v29 ≤ y13) 66 42 (st' := []) rfl rfl (fun b32 => ?_) (fun b32 => ?_)
        · have hf := zo_t hf b32
          exact kj66_26 y10 y11 y12 y13 y14 h28 hf
        · have hf := zo_f hf b32
          refine zq_wg 1 (pc' := 43) (lv' := [some (.ref y10), some (.int y11), some (.int y12), some (.int y13), some (.int y14)]) (st' := [.ref y10]) (h' := h28) rfl ?_
          obtain ⟨v33, e34, hf⟩ := zo_b_s hf
          refine zr_gR rfl rfl (by decide) rfl e34 ?_
          refine zq_wg 2 (pc' := 49) (lv' := [some (.ref y10), some (.int y11), some (.int y12), some (.int y13), some (.int y14)]) (st' := [.int y14, .int y11, .ref v33]) (h' := h28) rfl ?_
          obtain ⟨h35, e36, hf⟩ := zo_b_s hf
          refine zr_iast rfl e36 ?_
          refine zq_wg 12 (pc' := 63) (lv' := [some (.ref y10), some (.int y11), some (.int y12), some (.int y13), some (.int y14)]) (st' := [.int (y13 + (1 : Int32)), .int (y12 ||| ((1 : Int32) <<< (y14 &&& 31))), .int (y11 + (1 : Int32)), .ref y10]) (h' := h35) rfl ?_
          obtain ⟨e40, w38, h37, e39, hf⟩ := zo_v_s hf
          refine zr_cv zq_m226 [.int (y11 + (1 : Int32)), .int (y12 ||| ((1 : Int32) <<< (y14 &&& 31))), .int (y13 + (1 : Int32))] [] rfl rfl rfl rfl rfl (Nat.le_of_ble_eq_true rfl) (Nat.le_of_ble_eq_true rfl) e40 (hrec y10 (y11 + (1 : Int32)) (y12 ||| ((1 : Int32) <<< (y14 &&& 31))) (y13 + (1 : Int32)) h35 _ _ e39) ?_
          refine zq_wg 0 (pc' := 66) (lv' := [some (.ref y10), some (.int y11), some (.int y12), some (.int y13), some (.int y14)]) (st' := []) (h' := h37) rfl ?_
          exact kj66_26 y10 y11 y12 y13 y14 h37 hf
      · have hf := zo_f hf b27
        exact kj66_26 y10 y11 y12 y13 y14 h16 hf
set_option maxRecDepth 4000 in
theorem zm_gives_bok (sc : zX) (d : Nat) (hd : 3 ≤ d) (rec : Nat → Int32 → Int32 → Int32 → zH → Option (Unit × zH)) (hrec : ∀ (z0 : Nat) (z1 : Int32) (z2 : Int32) (z3 : Int32) (hz : zH) (rz : Unit) (hy : zH), rec z0 z1 z2 z3 hz = some (rz, hy) → zq_wm sc d 226 [.ref z0, .int z1, .int z2, .int z3] hz (none, hy)) (a0 : Nat) (a1 : Int32) (a2 : Int32) (a3 : Int32) (h : zH) (ro_ : Unit) (ho_ : zH) (hf : zm_gives_b sc rec a0 a1 a2 a3 h = some (ro_, ho_)) : zq_wm sc (d + 1) 226 [.ref a0, .int a1, .int a2, .int a3] h (none, ho_) := by
  unfold zm_gives_b at hf
  show zq_wp sc (d + 1) 226 0 [some (.ref a0), some (.int a1), some (.int a2), some (.int a3), none] [] h _
  refine zq_wg 2 (pc' := 2) (lv' := [some (.ref a0), some (.int a1), some (.int a2), some (.int a3), none]) (st' := [.ref a0, .int a1]) (h' := h) rfl ?_
  obtain ⟨e4, v2, h1, e3, hf⟩ := zo_v_s hf
  refine zr_cv zq_m151 [] [.int a1] rfl rfl rfl rfl rfl (Nat.le_of_ble_eq_true rfl) (Nat.le_of_ble_eq_true rfl) e4 (zm_posts_ok sc d (by omega) e3) ?_
  refine zq_wg 0 (pc' := 5) (lv' := [some (.ref a0), some (.int a1), some (.int a2), some (.int a3), none]) (st' := [.int v2, .int a1]) (h' := h1) rfl ?_
  refine zr_if (a1 = v2) 8 13 (st' := []) rfl rfl (fun b5 => ?_) (fun b5 => ?_)
  · have hf := zo_t hf b5
    refine zq_wg 1 (pc' := 9) (lv' := [some (.ref a0), some (.int a1), some (.int a2), some (.int a3), none]) (st' := [.ref a0]) (h' := h1) rfl ?_
    obtain ⟨e9, w7, h6, e8, hf⟩ := zo_v_s hf
    refine zr_cv zq_m227 [] [] rfl rfl rfl rfl rfl (Nat.le_of_ble_eq_true rfl) (Nat.le_of_ble_eq_true rfl) e9 (zm_looks_ok sc d (by omega) e8) ?_
    refine zq_wg 0 (pc' := 12) (lv' := [some (.ref a0), some (.int a1), some (.int a2), some (.int a3), none]) (st' := []) (h' := h6) rfl ?_
    exact zr_rv rfl rfl hf
  · have hf := zo_f hf b5
    refine zq_wg 2 (pc' := 16) (lv' := [some (.ref a0), some (.int a1), some (.int a2), some (.int a3), some (.int (0 : Int32))]) (st' := []) (h' := h1) rfl ?_
    refine zm_gives_l16_ok sc d hd rec hrec zo_F a0 a1 a2 a3 (0 : Int32) h1 _ _ _ ?_ hf
    · intro x41 x42 x43 x44 h45 hf
      refine zq_wg 1 (pc' := 73) (lv' := [some (.ref x41), some (.int x42), some (.int x43), some (.int x44), none]) (st' := [.ref x41]) (h' := h45) rfl ?_
      obtain ⟨v46, e47, hf⟩ := zo_b_s hf
      refine zr_gR rfl rfl (by decide) rfl e47 ?_
      refine zq_wg 2 (pc' := 78) (lv' := [some (.ref x41), some (.int x42), some (.int x43), some (.int x44), none]) (st' := [.int (-1 : Int32), .int x42, .ref v46]) (h' := h45) rfl ?_
      obtain ⟨h48, e49, hf⟩ := zo_b_s hf
      refine zr_iast rfl e49 ?_
      refine zq_wg 1 (pc' := 80) (lv' := [some (.ref x41), some (.int x42), some (.int x43), some (.int x44), none]) (st' := [.ref x41]) (h' := h48) rfl ?_
      obtain ⟨e53, v51, h50, e52, hf⟩ := zo_v_s hf
      refine zr_cv zq_m228 [] [] rfl rfl rfl rfl rfl (Nat.le_of_ble_eq_true rfl) (Nat.le_of_ble_eq_true rfl) e53 (zm_fewer_ok sc d (by omega) e52) ?_
      refine zq_wg 0 (pc' := 83) (lv' := [some (.ref x41), some (.int x42), some (.int x43), some (.int x44), none]) (st' := [.int v51]) (h' := h50) rfl ?_
      refine zq_wg 3 (pc' := 86) (lv' := [some (.ref x41), some (.int x42), some (.int x43), some (.int x44), none]) (st' := [.ref x41, .int (v51 - x44)]) (h' := h50) rfl ?_
      obtain ⟨e57, v55, h54, e56, hf⟩ := zo_v_s hf
      refine zr_cv zq_m151 [] [.int (v51 - x44)] rfl rfl rfl rfl rfl (Nat.le_of_ble_eq_true rfl) (Nat.le_of_ble_eq_true rfl) e57 (zm_posts_ok sc d (by omega) e56) ?_
      refine zq_wg 0 (pc' := 89) (lv' := [some (.ref x41), some (.int x42), some (.int x43), some (.int x44), none]) (st' := [.int v55, .int (v51 - x44)]) (h' := h54) rfl ?_
      refine zq_wg 4 (pc' := 93) (lv' := [some (.ref x41), some (.int x42), some (.int x43), some (.int x44), none]) (st' := [.int ((v55 - x42) - (1 : Int32)), .int (v51 - x44)]) (h' := h54) rfl ?_
      refine zr_if (((v55 - x42) - (1 : Int32)) < (v51 - x44)) 105 96 (st' := []) rfl rfl (fun b58 => ?_) (fun b58 => ?_)
      · have hf := zo_t hf b58
        exact zr_rv rfl rfl hf
      · have hf := zo_f hf b58
        refine zq_wg 6 (pc' := 102) (lv' := [some (.ref x41), some (.int x42), some (.int x43), some (.int x44), none]) (st' := [.int x44, .int x43, .int (x42 + (1 : Int32)), .ref x41]) (h' := h54) rfl ?_
        obtain ⟨e62, w60, h59, e61, hf⟩ := zo_v_s hf
        refine zr_cv zq_m226 [.int (x42 + (1 : Int32)), .int x43, .int x44] [] rfl rfl rfl rfl rfl (Nat.le_of_ble_eq_true rfl) (Nat.le_of_ble_eq_true rfl) e62 (hrec x41 (x42 + (1 : Int32)) x43 x44 h54 _ _ e61) ?_
        refine zq_wg 0 (pc' := 105) (lv' := [some (.ref x41), some (.int x42), some (.int x43), some (.int x44), none]) (st' := []) (h' := h59) rfl ?_
        exact zr_rv rfl rfl hf
def zm_gives (sc : zX) : Nat → Nat → Int32 → Int32 → Int32 → zH → Option (Unit × zH)
  | 0, _, _, _, _, _ => none
  | n + 1, a0, a1, a2, a3, h => zm_gives_b sc (zm_gives sc n) a0 a1 a2 a3 h
theorem zm_gives_ok (sc : zX) : ∀ (n d : Nat) (hd : n + 4 ≤ d) {a0 : Nat} {a1 : Int32} {a2 : Int32} {a3 : Int32} {h : zH} {ro_ : Unit} {ho_ : zH} (hf : zm_gives sc n a0 a1 a2 a3 h = some (ro_, ho_)), zq_wm sc d 226 [.ref a0, .int a1, .int a2, .int a3] h (none, ho_) := by
  intro n
  induction n with
  | zero => intro d hd a0 a1 a2 a3 h ro_ ho_ hf; cases hf
  | succ n ih =>
    intro d hd a0 a1 a2 a3 h ro_ ho_ hf
    obtain ⟨d, rfl⟩ : ∃ d', d = d' + 1 := ⟨d - 1, by omega⟩
    exact zm_gives_bok sc d (by omega) (zm_gives sc n) (fun z0 z1 z2 z3 hz rz hy hf => ih d (by omega) hf) a0 a1 a2 a3 h ro_ ho_ hf
set_option maxRecDepth 4000 in
def zm_goesThroughWays (sc : zX) (a0 : Nat) (h : zH) : Option (Unit × zH) := zo_v h a0 10 (zm_laysHeld sc a0 (0 : Int32) h) (fun w2 h1 => zo_b (zo_pI h1 10 a0 32 (0 : Int32)) (fun h5 => zo_b (zo_pL h5 10 a0 33 (0 : Int64)) (fun h7 => zo_v h7 a0 10 (zm_gives sc 64 a0 (0 : Int32) (0 : Int32) (0 : Int32) h7) (fun w10 h9 => some ((), h9)))))
set_option maxRecDepth 4000 in
theorem zm_goesThroughWays_ok (sc : zX) (d : Nat) (hd : 69 ≤ d) {a0 : Nat} {h : zH} {ro_ : Unit} {ho_ : zH} (hf : zm_goesThroughWays sc a0 h = some (ro_, ho_)) : zq_wm sc d 225 [.ref a0] h (none, ho_) := by
  unfold zm_goesThroughWays at hf
  obtain ⟨d, rfl⟩ : ∃ d', d = d' + 1 := ⟨d - 1, by omega⟩
  have hd : 68 ≤ d := by omega
  show zq_wp sc (d + 1) 225 0 [some (.ref a0)] [] h _
  refine zq_wg 2 (pc' := 2) (lv' := [some (.ref a0)]) (st' := [.int (0 : Int32), .ref a0]) (h' := h) rfl ?_
  obtain ⟨e4, w2, h1, e3, hf⟩ := zo_v_s hf
  refine zr_cv zq_m189 [.int (0 : Int32)] [] rfl rfl rfl rfl rfl (Nat.le_of_ble_eq_true rfl) (Nat.le_of_ble_eq_true rfl) e4 (zm_laysHeld_ok sc d (by omega) e3) ?_
  refine zq_wg 0 (pc' := 5) (lv' := [some (.ref a0)]) (st' := []) (h' := h1) rfl ?_
  refine zq_wg 2 (pc' := 7) (lv' := [some (.ref a0)]) (st' := [.int (0 : Int32), .ref a0]) (h' := h1) rfl ?_
  obtain ⟨h5, e6, hf⟩ := zo_b_s hf
  refine zr_pI rfl rfl (by decide) rfl rfl e6 ?_
  refine zq_wg 2 (pc' := 12) (lv' := [some (.ref a0)]) (st' := [.long (0 : Int64), .ref a0]) (h' := h5) rfl ?_
  obtain ⟨h7, e8, hf⟩ := zo_b_s hf
  refine zr_pL rfl rfl (by decide) rfl rfl e8 ?_
  refine zq_wg 4 (pc' := 19) (lv' := [some (.ref a0)]) (st' := [.int (0 : Int32), .int (0 : Int32), .int (0 : Int32), .ref a0]) (h' := h7) rfl ?_
  obtain ⟨e12, w10, h9, e11, hf⟩ := zo_v_s hf
  refine zr_cv zq_m226 [.int (0 : Int32), .int (0 : Int32), .int (0 : Int32)] [] rfl rfl rfl rfl rfl (Nat.le_of_ble_eq_true rfl) (Nat.le_of_ble_eq_true rfl) e12 (zm_gives_ok sc 64 d (by omega) e11) ?_
  refine zq_wg 0 (pc' := 22) (lv' := [some (.ref a0)]) (st' := []) (h' := h9) rfl ?_
  exact zr_rv rfl rfl hf
set_option maxRecDepth 4000 in
def zm_best (sc : zX) (a0 : Nat) (a1 : Int32) (h : zH) : Option (Int32 × zH) := zo_b (zo_pI h 10 a0 0 (0 : Int32)) (fun h1 => zo_v h1 a0 10 (zm_posts sc a0 h1) (fun v4 h3 => zo_c (zm_within sc a1 (-1 : Int32) (v4 - (1 : Int32)) h3) (fun v8 h7 => if v8 = 0 then (some ((-2 : Int32), h7)) else (zo_v h7 a0 10 (zm_goesThroughWays sc a0 h7) (fun w12 h11 => if 0 ≤ a1 then (zo_b (zo_gR h11 10 a0 35) (fun v16 => zo_b (zq_rdI sc h11 v16 a1) (fun v18 => some (v18, h11)))) else (zo_b (zo_gI h11 10 a0 34) (fun v20 => some (v20, h11))))))))
set_option maxRecDepth 4000 in
theorem zm_best_ok (sc : zX) (d : Nat) (hd : 70 ≤ d) {a0 : Nat} {a1 : Int32} {h : zH} {ro_ : Int32} {ho_ : zH} (hf : zm_best sc a0 a1 h = some (ro_, ho_)) : zq_wm sc d 224 [.ref a0, .int a1] h (some (.int ro_), ho_) := by
  unfold zm_best at hf
  obtain ⟨d, rfl⟩ : ∃ d', d = d' + 1 := ⟨d - 1, by omega⟩
  have hd : 69 ≤ d := by omega
  show zq_wp sc (d + 1) 224 0 [some (.ref a0), some (.int a1)] [] h _
  refine zq_wg 2 (pc' := 2) (lv' := [some (.ref a0), some (.int a1)]) (st' := [.int (0 : Int32), .ref a0]) (h' := h) rfl ?_
  obtain ⟨h1, e2, hf⟩ := zo_b_s hf
  refine zr_pI rfl rfl (by decide) rfl rfl e2 ?_
  refine zq_wg 3 (pc' := 8) (lv' := [some (.ref a0), some (.int a1)]) (st' := [.ref a0, .int (-1 : Int32), .int a1]) (h' := h1) rfl ?_
  obtain ⟨e6, v4, h3, e5, hf⟩ := zo_v_s hf
  refine zr_cv zq_m151 [] [.int (-1 : Int32), .int a1] rfl rfl rfl rfl rfl (Nat.le_of_ble_eq_true rfl) (Nat.le_of_ble_eq_true rfl) e6 (zm_posts_ok sc d (by omega) e5) ?_
  refine zq_wg 0 (pc' := 11) (lv' := [some (.ref a0), some (.int a1)]) (st' := [.int v4, .int (-1 : Int32), .int a1]) (h' := h3) rfl ?_
  refine zq_wg 2 (pc' := 13) (lv' := [some (.ref a0), some (.int a1)]) (st' := [.int (v4 - (1 : Int32)), .int (-1 : Int32), .int a1]) (h' := h3) rfl ?_
  obtain ⟨v8, h7, e9, hf⟩ := zo_c_s hf
  refine zr_cs zq_m173 [.int a1, .int (-1 : Int32), .int (v4 - (1 : Int32))] [] rfl rfl (by decide) rfl rfl rfl (Nat.le_of_ble_eq_true rfl) (Nat.le_of_ble_eq_true rfl) (zm_within_ok sc d (by omega) e9) ?_
  refine zq_wg 0 (pc' := 16) (lv' := [some (.ref a0), some (.int a1)]) (st' := [.int v8]) (h' := h7) rfl ?_
  refine zr_if (v8 = 0) 19 22 (st' := []) rfl rfl (fun b10 => ?_) (fun b10 => ?_)
  · have hf := zo_t hf b10
    refine zq_wg 1 (pc' := 21) (lv' := [some (.ref a0), some (.int a1)]) (st' := [.int (-2 : Int32)]) (h' := h7) rfl ?_
    exact zr_ri rfl rfl rfl hf
  · have hf := zo_f hf b10
    refine zq_wg 1 (pc' := 23) (lv' := [some (.ref a0), some (.int a1)]) (st' := [.ref a0]) (h' := h7) rfl ?_
    obtain ⟨e14, w12, h11, e13, hf⟩ := zo_v_s hf
    refine zr_cv zq_m225 [] [] rfl rfl rfl rfl rfl (Nat.le_of_ble_eq_true rfl) (Nat.le_of_ble_eq_true rfl) e14 (zm_goesThroughWays_ok sc d (by omega) e13) ?_
    refine zq_wg 0 (pc' := 26) (lv' := [some (.ref a0), some (.int a1)]) (st' := []) (h' := h11) rfl ?_
    refine zq_wg 1 (pc' := 27) (lv' := [some (.ref a0), some (.int a1)]) (st' := [.int a1]) (h' := h11) rfl ?_
    refine zr_if (0 ≤ a1) 37 30 (st' := []) rfl rfl (fun b15 => ?_) (fun b15 => ?_)
    · have hf := zo_t hf b15
      refine zq_wg 1 (pc' := 38) (lv' := [some (.ref a0), some (.int a1)]) (st' := [.ref a0]) (h' := h11) rfl ?_
      obtain ⟨v16, e17, hf⟩ := zo_b_s hf
      refine zr_gR rfl rfl (by decide) rfl e17 ?_
      refine zq_wg 1 (pc' := 42) (lv' := [some (.ref a0), some (.int a1)]) (st' := [.int a1, .ref v16]) (h' := h11) rfl ?_
      obtain ⟨v18, e19, hf⟩ := zo_b_s hf
      refine zr_iald rfl e19 ?_
      exact zr_ri rfl rfl rfl hf
    · have hf := zo_f hf b15
      refine zq_wg 1 (pc' := 31) (lv' := [some (.ref a0), some (.int a1)]) (st' := [.ref a0]) (h' := h11) rfl ?_
      obtain ⟨v20, e21, hf⟩ := zo_b_s hf
      refine zr_gI rfl rfl (by decide) rfl e21 ?_
      refine zq_wg 1 (pc' := 43) (lv' := [some (.ref a0), some (.int a1)]) (st' := [.int v20]) (h' := h11) rfl ?_
      exact zr_ri rfl rfl rfl hf
set_option maxRecDepth 4000 in
def zm_mean (sc : zX) (a0 : Nat) (h : zH) : Option (Int32 × zH) := zo_b (zo_pI h 10 a0 0 (0 : Int32)) (fun h1 => zo_v h1 a0 10 (zm_goesThroughWays sc a0 h1) (fun w4 h3 => zo_b (zo_gL h3 10 a0 33) (fun v7 => zo_b (zo_gI h3 10 a0 32) (fun v9 => zo_b (zo_dvL (v7 * (1000 : Int64)) v9.toInt64) (fun v11 => some (v11.toInt32, h3))))))
set_option maxRecDepth 4000 in
theorem zm_mean_ok (sc : zX) (d : Nat) (hd : 70 ≤ d) {a0 : Nat} {h : zH} {ro_ : Int32} {ho_ : zH} (hf : zm_mean sc a0 h = some (ro_, ho_)) : zq_wm sc d 229 [.ref a0] h (some (.int ro_), ho_) := by
  unfold zm_mean at hf
  obtain ⟨d, rfl⟩ : ∃ d', d = d' + 1 := ⟨d - 1, by omega⟩
  have hd : 69 ≤ d := by omega
  show zq_wp sc (d + 1) 229 0 [some (.ref a0)] [] h _
  refine zq_wg 2 (pc' := 2) (lv' := [some (.ref a0)]) (st' := [.int (0 : Int32), .ref a0]) (h' := h) rfl ?_
  obtain ⟨h1, e2, hf⟩ := zo_b_s hf
  refine zr_pI rfl rfl (by decide) rfl rfl e2 ?_
  refine zq_wg 1 (pc' := 6) (lv' := [some (.ref a0)]) (st' := [.ref a0]) (h' := h1) rfl ?_
  obtain ⟨e6, w4, h3, e5, hf⟩ := zo_v_s hf
  refine zr_cv zq_m225 [] [] rfl rfl rfl rfl rfl (Nat.le_of_ble_eq_true rfl) (Nat.le_of_ble_eq_true rfl) e6 (zm_goesThroughWays_ok sc d (by omega) e5) ?_
  refine zq_wg 0 (pc' := 9) (lv' := [some (.ref a0)]) (st' := []) (h' := h3) rfl ?_
  refine zq_wg 1 (pc' := 10) (lv' := [some (.ref a0)]) (st' := [.ref a0]) (h' := h3) rfl ?_
  obtain ⟨v7, e8, hf⟩ := zo_b_s hf
  refine zr_gL rfl rfl (by decide) rfl e8 ?_
  refine zq_wg 3 (pc' := 18) (lv' := [some (.ref a0)]) (st' := [.ref a0, .long (v7 * (1000 : Int64))]) (h' := h3) rfl ?_
  obtain ⟨v9, e10, hf⟩ := zo_b_s hf
  refine zr_gI rfl rfl (by decide) rfl e10 ?_
  refine zq_wg 1 (pc' := 22) (lv' := [some (.ref a0)]) (st' := [.long v9.toInt64, .long (v7 * (1000 : Int64))]) (h' := h3) rfl ?_
  obtain ⟨v11, e12, hf⟩ := zo_b_s hf
  refine zr_ldiv rfl e12 ?_
  refine zq_wg 1 (pc' := 24) (lv' := [some (.ref a0)]) (st' := [.int v11.toInt32]) (h' := h3) rfl ?_
  exact zr_ri rfl rfl rfl hf
set_option maxRecDepth 4000 in
def zm_loss (sc : zX) (a0 : Nat) (h : zH) : Option (Int32 × zH) := zo_b (zo_pI h 10 a0 0 (0 : Int32)) (fun h1 => zo_v h1 a0 10 (zm_goesThroughWays sc a0 h1) (fun w4 h3 => zo_b (zo_gI h3 10 a0 34) (fun v7 => zo_b (zo_gL h3 10 a0 33) (fun v9 => zo_b (zo_gI h3 10 a0 32) (fun v11 => zo_b (zo_dvL (v9 * (1000 : Int64)) v11.toInt64) (fun v13 => some ((((1000 : Int32) * v7) - v13.toInt32), h3)))))))
set_option maxRecDepth 4000 in
theorem zm_loss_ok (sc : zX) (d : Nat) (hd : 70 ≤ d) {a0 : Nat} {h : zH} {ro_ : Int32} {ho_ : zH} (hf : zm_loss sc a0 h = some (ro_, ho_)) : zq_wm sc d 230 [.ref a0] h (some (.int ro_), ho_) := by
  unfold zm_loss at hf
  obtain ⟨d, rfl⟩ : ∃ d', d = d' + 1 := ⟨d - 1, by omega⟩
  have hd : 69 ≤ d := by omega
  show zq_wp sc (d + 1) 230 0 [some (.ref a0)] [] h _
  refine zq_wg 2 (pc' := 2) (lv' := [some (.ref a0)]) (st' := [.int (0 : Int32), .ref a0]) (h' := h) rfl ?_
  obtain ⟨h1, e2, hf⟩ := zo_b_s hf
  refine zr_pI rfl rfl (by decide) rfl rfl e2 ?_
  refine zq_wg 1 (pc' := 6) (lv' := [some (.ref a0)]) (st' := [.ref a0]) (h' := h1) rfl ?_
  obtain ⟨e6, w4, h3, e5, hf⟩ := zo_v_s hf
  refine zr_cv zq_m225 [] [] rfl rfl rfl rfl rfl (Nat.le_of_ble_eq_true rfl) (Nat.le_of_ble_eq_true rfl) e6 (zm_goesThroughWays_ok sc d (by omega) e5) ?_
  refine zq_wg 0 (pc' := 9) (lv' := [some (.ref a0)]) (st' := []) (h' := h3) rfl ?_
  refine zq_wg 2 (pc' := 13) (lv' := [some (.ref a0)]) (st' := [.ref a0, .int (1000 : Int32)]) (h' := h3) rfl ?_
  obtain ⟨v7, e8, hf⟩ := zo_b_s hf
  refine zr_gI rfl rfl (by decide) rfl e8 ?_
  refine zq_wg 2 (pc' := 18) (lv' := [some (.ref a0)]) (st' := [.ref a0, .int ((1000 : Int32) * v7)]) (h' := h3) rfl ?_
  obtain ⟨v9, e10, hf⟩ := zo_b_s hf
  refine zr_gL rfl rfl (by decide) rfl e10 ?_
  refine zq_wg 3 (pc' := 26) (lv' := [some (.ref a0)]) (st' := [.ref a0, .long (v9 * (1000 : Int64)), .int ((1000 : Int32) * v7)]) (h' := h3) rfl ?_
  obtain ⟨v11, e12, hf⟩ := zo_b_s hf
  refine zr_gI rfl rfl (by decide) rfl e12 ?_
  refine zq_wg 1 (pc' := 30) (lv' := [some (.ref a0)]) (st' := [.long v11.toInt64, .long (v9 * (1000 : Int64)), .int ((1000 : Int32) * v7)]) (h' := h3) rfl ?_
  obtain ⟨v13, e14, hf⟩ := zo_b_s hf
  refine zr_ldiv rfl e14 ?_
  refine zq_wg 2 (pc' := 33) (lv' := [some (.ref a0)]) (st' := [.int (((1000 : Int32) * v7) - v13.toInt32)]) (h' := h3) rfl ?_
  exact zr_ri rfl rfl rfl hf
set_option maxRecDepth 4000 in
def zm_frontsBy_l28 (sc : zX) : Nat → Nat → Int32 → Int32 → Int64 → Int32 → Int32 → Int32 → Int32 → zH → (Nat → Int32 → Int32 → Int64 → Int32 → Int32 → zH → Option (Int64 × zH)) → Option (Int64 × zH)
  | 0, _, _, _, _, _, _, _, _, _, _ => none
  | n + 1, y14, y15, y16, y17, y18, y19, y20, y21, h22, k83 => if y16 ≤ y21 then (k83 y14 y15 y16 y17 y18 y19 h22) else (zo_v h22 y14 10 (zm_isEnd sc y14 y19 h22) (fun v25 h24 => zo_l (fun (x28 : Nat) (x29 : Int32) (x30 : Int32) (x31 : Int64) (x32 : Int32) (x33 : Int32) (x34 : Int32) (x35 : Int32) (h36 : zH) => zo_b (zo_dv x33 (3 : Int32)) (fun v37 => zm_frontsBy_l28 sc n x28 x29 x30 x31 x32 x35 v37 (x34 + (1 : Int32)) h36 k83)) (fun j69_36 => if v25 = 0 then (zo_b (zo_gR h24 10 y14 37) (fun v40 => zo_b (zo_rm y20 (3 : Int32)) (fun v42 => zo_b (zq_rdI sc h24 v40 (((3 : Int32) * y18) + v42)) (fun v44 => zo_v h24 y14 10 (zm_bounded sc y14 (y19 + v44) h24) (fun v47 h46 => j69_36 y14 y15 y16 y17 y18 y20 y21 v47 h46))))) else (j69_36 y14 y15 y16 y17 y18 y20 y21 y19 h24))))
set_option maxRecDepth 4000 in
def zm_frontsBy_l5 (sc : zX) : Nat → Nat → Int32 → Int32 → Int64 → Int32 → zH → Option (Int64 × zH)
  | 0, _, _, _, _, _, _ => none
  | n + 1, y1, y2, y3, y4, y5, h6 => zo_b (zo_gI h6 10 y1 32) (fun v7 => if v7 ≤ y5 then (some (y4, h6)) else (zo_b (zo_gR h6 10 y1 25) (fun v10 => zo_b (zq_rdI sc h6 v10 (1 : Int32)) (fun v12 => zm_frontsBy_l28 sc zo_F y1 y2 y3 y4 y5 v12 y2 (0 : Int32) h6 (fun (x50 : Nat) (x51 : Int32) (x52 : Int32) (x53 : Int64) (x54 : Int32) (x55 : Int32) (h56 : zH) => zm_frontsBy_l5 sc n x50 x51 x52 (x53 + x55.toInt64) (x54 + (1 : Int32)) h56 )))))
set_option maxRecDepth 4000 in
def zm_frontsBy (sc : zX) (a0 : Nat) (a1 : Int32) (a2 : Int32) (h : zH) : Option (Int64 × zH) := zm_frontsBy_l5 sc zo_F a0 a1 a2 (0 : Int64) (0 : Int32) h 
set_option maxRecDepth 4000 in
theorem zm_frontsBy_l28_ok (sc : zX) (d : Nat) (hd : 1 ≤ d) : ∀ (n : Nat) (y14 : Nat) (y15 : Int32) (y16 : Int32) (y17 : Int64) (y18 : Int32) (y19 : Int32) (y20 : Int32) (y21 : Int32) (h22 : zH) (k83 : Nat → Int32 → Int32 → Int64 → Int32 → Int32 → zH → Option (Int64 × zH)) (ro_ : Int64) (ho_ : zH), (∀ (z0 : Nat) (z1 : Int32) (z2 : Int32) (z3 : Int64) (z4 : Int32) (z5 : Int32) (hz : zH), k83 z0 z1 z2 z3 z4 z5 hz = some (ro_, ho_) → zq_wp sc (d + 1) 232 83 [some (.ref z0), some (.int z1), some (.int z2), some (.long z3), none, some (.int z4), some (.int z5), none, none] [] hz (some (.long ro_), ho_)) → zm_frontsBy_l28 sc n y14 y15 y16 y17 y18 y19 y20 y21 h22 k83 = some (ro_, ho_) → zq_wp sc (d + 1) 232 28 [some (.ref y14), some (.int y15), some (.int y16), some (.long y17), none, some (.int y18), some (.int y19), some (.int y20), some (.int y21)] [] h22 (some (.long ro_), ho_) := by
  intro n
  induction n with
  | zero => intro y14 y15 y16 y17 y18 y19 y20 y21 h22 k83 ro_ ho_ hk83 hf; cases hf
  | succ n ih =>
    intro y14 y15 y16 y17 y18 y19 y20 y21 h22 k83 ro_ ho_ hk83 hf
    refine zq_wg 2 (pc' := 31) (lv' := [some (.ref y14), some (.int y15), some (.int y16), some (.long y17), none, some (.int y18), some (.int y19), some (.int y20), some (.int y21)]) (st' := [.int y16, .int y21]) (h' := h22) rfl ?_
    refine zr_if (y16 ≤ y21) 83 34 (st' := []) rfl rfl (fun b23 => ?_) (fun b23 => ?_)
    · have hf := zo_t hf b23
      refine zq_fg [some (.ref y14), some (.int y15), some (.int y16), some (.long y17), none, some (.int y18), some (.int y19), none, none] (zq_lvle_s (zq_lvle_s (zq_lvle_s (zq_lvle_s (zq_lvle_s (zq_lvle_s (zq_lvle_s (zq_lvle_n (zq_lvle_n zq_lvle_nil))))))))) ?_
      exact hk83 y14 y15 y16 y17 y18 y19 h22 hf
    · have hf := zo_f hf b23
      refine zq_wg 2 (pc' := 37) (lv' := [some (.ref y14), some (.int y15), some (.int y16), some (.long y17), none, some (.int y18), some (.int y19), some (.int y20), some (.int y21)]) (st' := [.int y19, .ref y14]) (h' := h22) rfl ?_
      obtain ⟨e27, v25, h24, e26, hf⟩ := zo_v_s hf
      refine zr_cv zq_m214 [.int y19] [] rfl rfl rfl rfl rfl (Nat.le_of_ble_eq_true rfl) (Nat.le_of_ble_eq_true rfl) e27 (zm_isEnd_ok sc d (by omega) e26) ?_
      refine zq_wg 0 (pc' := 40) (lv' := [some (.ref y14), some (.int y15), some (.int y16), some (.long y17), none, some (.int y18), some (.int y19), some (.int y20), some (.int y21)]) (st' := [.int v25]) (h' := h24) rfl ?_
      obtain ⟨j69_36, hjj69_36, hf⟩ := zo_lj hf
      have kj69_36 : ∀ (x28 : Nat) (x29 : Int32) (x30 : Int32) (x31 : Int64) (x32 : Int32) (x33 : Int32) (x34 : Int32) (x35 : Int32) (h36 : zH), j69_36 x28 x29 x30 x31 x32 x33 x34 x35 h36 = some (ro_, ho_) → zq_wp sc (d + 1) 232 69 [some (.ref x28), some (.int x29), some (.int x30), some (.long x31), none, some (.int x32), none, some (.int x33), some (.int x34)] [.int x35] h36 (some (.long ro_), ho_) := by
        intro x28 x29 x30 x31 x32 x33 x34 x35 h36 hf
        rw [hjj69_36] at hf
        refine zq_wg 3 (pc' := 74) (lv' := [some (.ref x28), some (.int x29), some (.int x30), some (.long x31), none, some (.int x32), some (.int x35), some (.int x33), some (.int x34)]) (st' := [.int (3 : Int32), .int x33]) (h' := h36) rfl ?_
        obtain ⟨v37, e38, hf⟩ := zo_b_s hf
        refine zr_idiv rfl e38 ?_
        refine zq_wg 3 (pc' := 28) (lv' := [some (.ref x28), some (.int x29), some (.int x30), some (.long x31), none, some (.int x32), some (.int x35), some (.int v37), some (.int (x34 + (1 : Int32)))]) (st' := []) (h' := h36) rfl ?_
        exact ih x28 x29 x30 x31 x32 x35 v37 (x34 + (1 : Int32)) h36 _ _ _ hk83 hf
      refine zr_if (v25 = 0) 48 43 (st' := []) rfl rfl (fun b39 => ?_) (fun b39 => ?_)
      · have hf := zo_t hf b39
        refine zq_wg 3 (pc' := 52) (lv' := [some (.ref y14), some (.int y15), some (.int y16), some (.long y17), none, some (.int y18), some (.int y19), some (.int y20), some (.int y21)]) (st' := [.ref y14, .int y19, .ref y14]) (h' := h24) rfl ?_
        obtain ⟨v40, e41, hf⟩ := zo_b_s hf
        refine zr_gR rfl rfl (by decide) rfl e41 ?_
        refine zq_wg 5 (pc' := 62) (lv' := [some (.ref y14), some (.int y15), some (.int y16), some (.long y17), none, some (.int y18), some (.int y19), some (.int y20), some (.int y21)]) (st' := [.int (3 : Int32), .int y20, .int ((3 : Int32) * y18), .ref v40, .int y19, .ref y14]) (h' := h24) rfl ?_
        obtain ⟨v42, e43, hf⟩ := zo_b_s hf
        refine zr_irem rfl e43 ?_
        refine zq_wg 1 (pc' := 64) (lv' := [some (.ref y14), some (.int y15), some (.int y16), some (.long y17), none, some (.int y18), some (.int y19), some (.int y20), some (.int y21)]) (st' := [.int (((3 : Int32) * y18) + v42), .ref v40, .int y19, .ref y14]) (h' := h24) rfl ?_
        obtain ⟨v44, e45, hf⟩ := zo_b_s hf
        refine zr_iald rfl e45 ?_
        refine zq_wg 1 (pc' := 66) (lv' := [some (.ref y14), some (.int y15), some (.int y16), some (.long y17), none, some (.int y18), some (.int y19), some (.int y20), some (.int y21)]) (st' := [.int (y19 + v44), .ref y14]) (h' := h24) rfl ?_
        obtain ⟨e49, v47, h46, e48, hf⟩ := zo_v_s hf
        refine zr_cv zq_m219 [.int (y19 + v44)] [] rfl rfl rfl rfl rfl (Nat.le_of_ble_eq_true rfl) (Nat.le_of_ble_eq_true rfl) e49 (zm_bounded_ok sc d (by omega) e48) ?_
        refine zq_wg 0 (pc' := 69) (lv' := [some (.ref y14), some (.int y15), some (.int y16), some (.long y17), none, some (.int y18), some (.int y19), some (.int y20), some (.int y21)]) (st' := [.int v47]) (h' := h46) rfl ?_
        refine zq_fg [some (.ref y14), some (.int y15), some (.int y16), some (.long y17), none, some (.int y18), none, some (.int y20), some (.int y21)] (zq_lvle_s (zq_lvle_s (zq_lvle_s (zq_lvle_s (zq_lvle_s (zq_lvle_s (zq_lvle_n (zq_lvle_s (zq_lvle_s zq_lvle_nil))))))))) ?_
        exact kj69_36 y14 y15 y16 y17 y18 y20 y21 v47 h46 hf
      · have hf := zo_f hf b39
        refine zq_wg 2 (pc' := 69) (lv' := [some (.ref y14), some (.int y15), some (.int y16), some (.long y17), none, some (.int y18), some (.int y19), some (.int y20), some (.int y21)]) (st' := [.int y19]) (h' := h24) rfl ?_
        refine zq_fg [some (.ref y14), some (.int y15), some (.int y16), some (.long y17), none, some (.int y18), none, some (.int y20), some (.int y21)] (zq_lvle_s (zq_lvle_s (zq_lvle_s (zq_lvle_s (zq_lvle_s (zq_lvle_s (zq_lvle_n (zq_lvle_s (zq_lvle_s zq_lvle_nil))))))))) ?_
        exact kj69_36 y14 y15 y16 y17 y18 y20 y21 y19 h24 hf
set_option maxRecDepth 4000 in
theorem zm_frontsBy_l5_ok (sc : zX) (d : Nat) (hd : 1 ≤ d) : ∀ (n : Nat) (y1 : Nat) (y2 : Int32) (y3 : Int32) (y4 : Int64) (y5 : Int32) (h6 : zH) (ro_ : Int64) (ho_ : zH),  zm_frontsBy_l5 sc n y1 y2 y3 y4 y5 h6  = some (ro_, ho_) → zq_wp sc (d + 1) 232 5 [some (.ref y1), some (.int y2), some (.int y3), some (.long y4), none, some (.int y5), none, none, none] [] h6 (some (.long ro_), ho_) := by
  intro n
  induction n with
  | zero => intro y1 y2 y3 y4 y5 h6 ro_ ho_ hf; cases hf
  | succ n ih =>
    intro y1 y2 y3 y4 y5 h6 ro_ ho_ hf
    refine zq_wg 2 (pc' := 8) (lv' := [some (.ref y1), some (.int y2), some (.int y3), some (.long y4), none, some (.int y5), none, none, none]) (st' := [.ref y1, .int y5]) (h' := h6) rfl ?_
    obtain ⟨v7, e8, hf⟩ := zo_b_s hf
    refine zr_gI rfl rfl (by decide) rfl e8 ?_
    refine zr_if (v7 ≤ y5) 95 14 (st' := []) rfl rfl (fun b9 => ?_) (fun b9 => ?_)
    · have hf := zo_t hf b9
      refine zq_wg 1 (pc' := 96) (lv' := [some (.ref y1), some (.int y2), some (.int y3), some (.long y4), none, some (.int y5), none, none, none]) (st' := [.long y4]) (h' := h6) rfl ?_
      exact zr_rl rfl rfl hf
    · have hf := zo_f hf b9
      refine zq_wg 1 (pc' := 15) (lv' := [some (.ref y1), some (.int y2), some (.int y3), some (.long y4), none, some (.int y5), none, none, none]) (st' := [.ref y1]) (h' := h6) rfl ?_
      obtain ⟨v10, e11, hf⟩ := zo_b_s hf
      refine zr_gR rfl rfl (by decide) rfl e11 ?_
      refine zq_wg 1 (pc' := 19) (lv' := [some (.ref y1), some (.int y2), some (.int y3), some (.long y4), none, some (.int y5), none, none, none]) (st' := [.int (1 : Int32), .ref v10]) (h' := h6) rfl ?_
      obtain ⟨v12, e13, hf⟩ := zo_b_s hf
      refine zr_iald rfl e13 ?_
      refine zq_wg 5 (pc' := 28) (lv' := [some (.ref y1), some (.int y2), some (.int y3), some (.long y4), none, some (.int y5), some (.int v12), some (.int y2), some (.int (0 : Int32))]) (st' := []) (h' := h6) rfl ?_
      refine zm_frontsBy_l28_ok sc d hd zo_F y1 y2 y3 y4 y5 v12 y2 (0 : Int32) h6 _ _ _ ?_ hf
      · intro x50 x51 x52 x53 x54 x55 h56 hf
        refine zq_wg 7 (pc' := 5) (lv' := [some (.ref x50), some (.int x51), some (.int x52), some (.long (x53 + x55.toInt64)), none, some (.int (x54 + (1 : Int32))), some (.int x55), none, none]) (st' := []) (h' := h56) rfl ?_
        refine zq_fg [some (.ref x50), some (.int x51), some (.int x52), some (.long (x53 + x55.toInt64)), none, some (.int (x54 + (1 : Int32))), none, none, none] (zq_lvle_s (zq_lvle_s (zq_lvle_s (zq_lvle_s (zq_lvle_s (zq_lvle_s (zq_lvle_n (zq_lvle_s (zq_lvle_s zq_lvle_nil))))))))) ?_
        exact ih x50 x51 x52 (x53 + x55.toInt64) (x54 + (1 : Int32)) h56 _ _ hf
set_option maxRecDepth 4000 in
theorem zm_frontsBy_ok (sc : zX) (d : Nat) (hd : 2 ≤ d) {a0 : Nat} {a1 : Int32} {a2 : Int32} {h : zH} {ro_ : Int64} {ho_ : zH} (hf : zm_frontsBy sc a0 a1 a2 h = some (ro_, ho_)) : zq_wm sc d 232 [.ref a0, .int a1, .int a2] h (some (.long ro_), ho_) := by
  unfold zm_frontsBy at hf
  obtain ⟨d, rfl⟩ : ∃ d', d = d' + 1 := ⟨d - 1, by omega⟩
  have hd : 1 ≤ d := by omega
  show zq_wp sc (d + 1) 232 0 [some (.ref a0), some (.int a1), some (.int a2), none, none, none, none, none, none] [] h _
  refine zq_wg 4 (pc' := 5) (lv' := [some (.ref a0), some (.int a1), some (.int a2), some (.long (0 : Int64)), none, some (.int (0 : Int32)), none, none, none]) (st' := []) (h' := h) rfl ?_
  refine zm_frontsBy_l5_ok sc d hd zo_F a0 a1 a2 (0 : Int64) (0 : Int32) h _ _ hf
set_option maxRecDepth 4000 in
def zm_turned_l7 (sc : zX) : Nat → Int32 → Int32 → Int32 → Int32 → zH → Option (Int32 × zH)
  | 0, _, _, _, _, _ => none
  | n + 1, y1, y2, y3, y4, h5 => if y1 ≤ y4 then (some (y2, h5)) else (zo_b (zo_rm y3 (3 : Int32)) (fun v7 => zo_b (zo_dv y3 (3 : Int32)) (fun v9 => zm_turned_l7 sc n y1 (((3 : Int32) * y2) + v7) v9 (y4 + (1 : Int32)) h5 )))
set_option maxRecDepth 4000 in
def zm_turned (sc : zX) (a0 : Int32) (a1 : Int32) (h : zH) : Option (Int32 × zH) := zm_turned_l7 sc zo_F a1 (0 : Int32) a0 (0 : Int32) h 
set_option maxRecDepth 4000 in
theorem zm_turned_l7_ok (sc : zX) (d : Nat) : ∀ (n : Nat) (y1 : Int32) (y2 : Int32) (y3 : Int32) (y4 : Int32) (h5 : zH) (ro_ : Int32) (ho_ : zH),  zm_turned_l7 sc n y1 y2 y3 y4 h5  = some (ro_, ho_) → zq_wp sc d 233 7 [none, some (.int y1), some (.int y2), some (.int y3), some (.int y4)] [] h5 (some (.int ro_), ho_) := by
  intro n
  induction n with
  | zero => intro y1 y2 y3 y4 h5 ro_ ho_ hf; cases hf
  | succ n ih =>
    intro y1 y2 y3 y4 h5 ro_ ho_ hf
    refine zq_wg 2 (pc' := 10) (lv' := [none, some (.int y1), some (.int y2), some (.int y3), some (.int y4)]) (st' := [.int y1, .int y4]) (h' := h5) rfl ?_
    refine zr_if (y1 ≤ y4) 31 13 (st' := []) rfl rfl (fun b6 => ?_) (fun b6 => ?_)
    · have hf := zo_t hf b6
      refine zq_wg 1 (pc' := 32) (lv' := [none, some (.int y1), some (.int y2), some (.int y3), some (.int y4)]) (st' := [.int y2]) (h' := h5) rfl ?_
      exact zr_ri rfl rfl rfl hf
    · have hf := zo_f hf b6
      refine zq_wg 5 (pc' := 18) (lv' := [none, some (.int y1), some (.int y2), some (.int y3), some (.int y4)]) (st' := [.int (3 : Int32), .int y3, .int ((3 : Int32) * y2)]) (h' := h5) rfl ?_
      obtain ⟨v7, e8, hf⟩ := zo_b_s hf
      refine zr_irem rfl e8 ?_
      refine zq_wg 4 (pc' := 23) (lv' := [none, some (.int y1), some (.int (((3 : Int32) * y2) + v7)), some (.int y3), some (.int y4)]) (st' := [.int (3 : Int32), .int y3]) (h' := h5) rfl ?_
      obtain ⟨v9, e10, hf⟩ := zo_b_s hf
      refine zr_idiv rfl e10 ?_
      refine zq_wg 3 (pc' := 7) (lv' := [none, some (.int y1), some (.int (((3 : Int32) * y2) + v7)), some (.int v9), some (.int (y4 + (1 : Int32)))]) (st' := []) (h' := h5) rfl ?_
      exact ih y1 (((3 : Int32) * y2) + v7) v9 (y4 + (1 : Int32)) h5 _ _ hf
set_option maxRecDepth 4000 in
theorem zm_turned_ok (sc : zX) (d : Nat) (hd : 0 ≤ d) {a0 : Int32} {a1 : Int32} {h : zH} {ro_ : Int32} {ho_ : zH} (hf : zm_turned sc a0 a1 h = some (ro_, ho_)) : zq_wm sc d 233 [.int a0, .int a1] h (some (.int ro_), ho_) := by
  unfold zm_turned at hf
  show zq_wp sc d 233 0 [some (.int a0), some (.int a1), none, none, none] [] h _
  refine zq_wg 6 (pc' := 7) (lv' := [some (.int a0), some (.int a1), some (.int (0 : Int32)), some (.int a0), some (.int (0 : Int32))]) (st' := []) (h' := h) rfl ?_
  refine zq_fg [none, some (.int a1), some (.int (0 : Int32)), some (.int a0), some (.int (0 : Int32))] (zq_lvle_n (zq_lvle_s (zq_lvle_s (zq_lvle_s (zq_lvle_s zq_lvle_nil))))) ?_
  refine zm_turned_l7_ok sc d zo_F a1 (0 : Int32) a0 (0 : Int32) h _ _ hf
set_option maxRecDepth 4000 in
def zm_plan_l31 (sc : zX) : Nat → Nat → Int32 → Int32 → Int32 → zH → (Nat → Int32 → Int32 → zH → Option (Int32 × zH)) → Option (Int32 × zH)
  | 0, _, _, _, _, _, _ => none
  | n + 1, y15, y16, y17, y18, h19, k74 => zo_b (zo_gI h19 10 y15 32) (fun v20 => if ((3 : Int32) * v20) ≤ y18 then (k74 y15 y16 y17 h19) else (zo_b (zo_gR h19 10 y15 37) (fun v23 => zo_b (zo_gR h19 10 y15 36) (fun v25 => zo_b (zo_dv y18 (3 : Int32)) (fun v27 => zo_b (zq_rdI sc h19 v25 v27) (fun v29 => zo_b (zo_gR h19 10 y15 10) (fun v31 => zo_b (zq_rdI sc h19 v31 (4 : Int32)) (fun v33 => zo_b (zo_rm y18 (3 : Int32)) (fun v35 => zo_v h19 y15 10 (zm_goesBy sc y15 v29 v33 v35 h19) (fun v38 h37 => zo_b (zq_wrX 1 h37 v23 y18 v38) (fun h41 => zm_plan_l31 sc n y15 y16 y17 (y18 + (1 : Int32)) h41 k74)))))))))))
set_option maxRecDepth 4000 in
def zm_plan_l79 (sc : zX) : Nat → Nat → Int32 → Int32 → Int32 → Int32 → zH → (Nat → Int32 → Int32 → Int32 → zH → Option (Int32 × zH)) → Option (Int32 × zH)
  | 0, _, _, _, _, _, _, _ => none
  | n + 1, y47, y48, y49, y50, y51, h52, k95 => if y48 ≤ y51 then (k95 y47 y48 y49 y50 h52) else (zm_plan_l79 sc n y47 y48 y49 ((3 : Int32) * y50) (y51 + (1 : Int32)) h52 k95)
set_option maxRecDepth 4000 in
def zm_plan_l109 (sc : zX) : Nat → Nat → Int32 → Int32 → Int32 → Int32 → Int64 → Int32 → zH → (Nat → Int32 → Int32 → Int32 → Int64 → zH → Option (Int32 × zH)) → Option (Int32 × zH)
  | 0, _, _, _, _, _, _, _, _, _ => none
  | n + 1, y63, y64, y65, y66, y67, y68, y69, h70, k168 => if y66 ≤ y69 then (k168 y63 y64 y65 y67 y68 h70) else (zo_c (zm_turned sc y69 y64 h70) (fun v73 h72 => zo_v h72 y63 10 (zm_frontsBy sc y63 v73 y64 h72) (fun v76 h75 => zo_l (if (lg_cmp v76 y68) ≤ 0 then y67 else y69) (fun (x79 : Int32) => zo_l (if (lg_cmp v76 y68) ≤ 0 then y68 else v76) (fun (x80 : Int64) => zm_plan_l109 sc n y63 y64 y65 y66 x79 x80 (y69 + (1 : Int32)) h75 k168)))))
set_option maxRecDepth 4000 in
def zm_plan_l179 (sc : zX) : Nat → Nat → Int32 → Int64 → Int32 → Int32 → zH → (Nat → Int32 → Int64 → Int32 → zH → Option (Int32 × zH)) → Option (Int32 × zH)
  | 0, _, _, _, _, _, _, _ => none
  | n + 1, y92, y93, y94, y95, y96, h97, k197 => if y93 ≤ y96 then (k197 y92 y93 y94 y95 h97) else (zo_b (zo_dv y95 (3 : Int32)) (fun v99 => zm_plan_l179 sc n y92 y93 y94 v99 (y96 + (1 : Int32)) h97 k197))
set_option maxRecDepth 4000 in
def zm_plan (sc : zX) (a0 : Nat) (a1 : Int32) (a2 : Int32) (h : zH) : Option (Int32 × zH) := zo_b (zo_pI h 10 a0 0 (0 : Int32)) (fun h1 => zo_c (zm_within sc a1 (1 : Int32) (5 : Int32) h1) (fun v4 h3 => if v4 = 0 then (some ((-1 : Int32), h3)) else (zo_c (zm_within sc a2 (0 : Int32) a1 h3) (fun v8 h7 => if v8 = 0 then (some ((-1 : Int32), h7)) else (zo_v h7 a0 10 (zm_goesThroughWays sc a0 h7) (fun w12 h11 => zm_plan_l31 sc zo_F a0 a1 a2 (0 : Int32) h11 (fun (x43 : Nat) (x44 : Int32) (x45 : Int32) (h46 : zH) => zm_plan_l79 sc zo_F x43 x44 x45 (1 : Int32) (0 : Int32) h46 (fun (x54 : Nat) (x55 : Int32) (x56 : Int32) (x57 : Int32) (h58 : zH) => zo_v h58 x54 10 (zm_frontsBy sc x54 (0 : Int32) x55 h58) (fun v60 h59 => zm_plan_l109 sc zo_F x54 x55 x56 x57 (0 : Int32) v60 (1 : Int32) h59 (fun (x83 : Nat) (x84 : Int32) (x85 : Int32) (x86 : Int32) (x87 : Int64) (h88 : zH) => zo_c (zm_turned sc x86 x84 h88) (fun v90 h89 => zm_plan_l179 sc zo_F x83 x85 x87 v90 (1 : Int32) h89 (fun (x101 : Nat) (x102 : Int32) (x103 : Int64) (x104 : Int32) (h105 : zH) => if x102 = 0 then (zo_b (zo_gI h105 10 x101 32) (fun v107 => zo_b (zo_dvL (x103 * (1000 : Int64)) v107.toInt64) (fun v109 => some (v109.toInt32, h105)))) else (zo_b (zo_rm x104 (3 : Int32)) (fun v111 => some (v111, h105)))))))))))))))
set_option maxRecDepth 4000 in
theorem zm_plan_l31_ok (sc : zX) (d : Nat) (hd : 69 ≤ d) : ∀ (n : Nat) (y15 : Nat) (y16 : Int32) (y17 : Int32) (y18 : Int32) (h19 : zH) (k74 : Nat → Int32 → Int32 → zH → Option (Int32 × zH)) (ro_ : Int32) (ho_ : zH), (∀ (z0 : Nat) (z1 : Int32) (z2 : Int32) (hz : zH), k74 z0 z1 z2 hz = some (ro_, ho_) → zq_wp sc (d + 1) 231 74 [some (.ref z0), some (.int z1), some (.int z2), none, none, none, none, none, none, none] [] hz (some (.int ro_), ho_)) → zm_plan_l31 sc n y15 y16 y17 y18 h19 k74 = some (ro_, ho_) → zq_wp sc (d + 1) 231 31 [some (.ref y15), some (.int y16), some (.int y17), some (.int y18), none, none, none, none, none, none] [] h19 (some (.int ro_), ho_) := by
  intro n
  induction n with
  | zero => intro y15 y16 y17 y18 h19 k74 ro_ ho_ hk74 hf; cases hf
  | succ n ih =>
    intro y15 y16 y17 y18 h19 k74 ro_ ho_ hk74 hf
    refine zq_wg 3 (pc' := 34) (lv' := [some (.ref y15), some (.int y16), some (.int y17), some (.int y18), none, none, none, none, none, none]) (st' := [.ref y15, .int (3 : Int32), .int y18]) (h' := h19) rfl ?_
    obtain ⟨v20, e21, hf⟩ := zo_b_s hf
    refine zr_gI rfl rfl (by decide) rfl e21 ?_
    refine zq_wg 1 (pc' := 38) (lv' := [some (.ref y15), some (.int y16), some (.int y17), some (.int y18), none, none, none, none, none, none]) (st' := [.int ((3 : Int32) * v20), .int y18]) (h' := h19) rfl ?_
    refine zr_if (((3 : Int32) * v20) ≤ y18) 74 41 (st' := []) rfl rfl (fun b22 => ?_) (fun b22 => ?_)
    · have hf := zo_t hf b22
      refine zq_fg [some (.ref y15), some (.int y16), some (.int y17), none, none, none, none, none, none, none] (zq_lvle_s (zq_lvle_s (zq_lvle_s (zq_lvle_n (zq_lvle_s (zq_lvle_s (zq_lvle_s (zq_lvle_s (zq_lvle_s (zq_lvle_s zq_lvle_nil)))))))))) ?_
      exact hk74 y15 y16 y17 h19 hf
    · have hf := zo_f hf b22
      refine zq_wg 1 (pc' := 42) (lv' := [some (.ref y15), some (.int y16), some (.int y17), some (.int y18), none, none, none, none, none, none]) (st' := [.ref y15]) (h' := h19) rfl ?_
      obtain ⟨v23, e24, hf⟩ := zo_b_s hf
      refine zr_gR rfl rfl (by decide) rfl e24 ?_
      refine zq_wg 3 (pc' := 48) (lv' := [some (.ref y15), some (.int y16), some (.int y17), some (.int y18), none, none, none, none, none, none]) (st' := [.ref y15, .ref y15, .int y18, .ref v23]) (h' := h19) rfl ?_
      obtain ⟨v25, e26, hf⟩ := zo_b_s hf
      refine zr_gR rfl rfl (by decide) rfl e26 ?_
      refine zq_wg 2 (pc' := 53) (lv' := [some (.ref y15), some (.int y16), some (.int y17), some (.int y18), none, none, none, none, none, none]) (st' := [.int (3 : Int32), .int y18, .ref v25, .ref y15, .int y18, .ref v23]) (h' := h19) rfl ?_
      obtain ⟨v27, e28, hf⟩ := zo_b_s hf
      refine zr_idiv rfl e28 ?_
      obtain ⟨v29, e30, hf⟩ := zo_b_s hf
      refine zr_iald rfl e30 ?_
      refine zq_wg 1 (pc' := 56) (lv' := [some (.ref y15), some (.int y16), some (.int y17), some (.int y18), none, none, none, none, none, none]) (st' := [.ref y15, .int v29, .ref y15, .int y18, .ref v23]) (h' := h19) rfl ?_
      obtain ⟨v31, e32, hf⟩ := zo_b_s hf
      refine zr_gR rfl rfl (by decide) rfl e32 ?_
      refine zq_wg 1 (pc' := 60) (lv' := [some (.ref y15), some (.int y16), some (.int y17), some (.int y18), none, none, none, none, none, none]) (st' := [.int (4 : Int32), .ref v31, .int v29, .ref y15, .int y18, .ref v23]) (h' := h19) rfl ?_
      obtain ⟨v33, e34, hf⟩ := zo_b_s hf
      refine zr_iald rfl e34 ?_
      refine zq_wg 2 (pc' := 63) (lv' := [some (.ref y15), some (.int y16), some (.int y17), some (.int y18), none, none, none, none, none, none]) (st' := [.int (3 : Int32), .int y18, .int v33, .int v29, .ref y15, .int y18, .ref v23]) (h' := h19) rfl ?_
      obtain ⟨v35, e36, hf⟩ := zo_b_s hf
      refine zr_irem rfl e36 ?_
      obtain ⟨e40, v38, h37, e39, hf⟩ := zo_v_s hf
      refine zr_cv zq_m218 [.int v29, .int v33, .int v35] [.int y18, .ref v23] rfl rfl rfl rfl rfl (Nat.le_of_ble_eq_true rfl) (Nat.le_of_ble_eq_true rfl) e40 (zm_goesBy_ok sc d (by omega) e39) ?_
      refine zq_wg 0 (pc' := 67) (lv' := [some (.ref y15), some (.int y16), some (.int y17), some (.int y18), none, none, none, none, none, none]) (st' := [.int v38, .int y18, .ref v23]) (h' := h37) rfl ?_
      obtain ⟨h41, e42, hf⟩ := zo_b_s hf
      refine zr_iast rfl e42 ?_
      refine zq_wg 2 (pc' := 31) (lv' := [some (.ref y15), some (.int y16), some (.int y17), some (.int (y18 + (1 : Int32))), none, none, none, none, none, none]) (st' := []) (h' := h41) rfl ?_
      exact ih y15 y16 y17 (y18 + (1 : Int32)) h41 _ _ _ hk74 hf
set_option maxRecDepth 4000 in
theorem zm_plan_l79_ok (sc : zX) (d : Nat) (hd : 69 ≤ d) : ∀ (n : Nat) (y47 : Nat) (y48 : Int32) (y49 : Int32) (y50 : Int32) (y51 : Int32) (h52 : zH) (k95 : Nat → Int32 → Int32 → Int32 → zH → Option (Int32 × zH)) (ro_ : Int32) (ho_ : zH), (∀ (z0 : Nat) (z1 : Int32) (z2 : Int32) (z3 : Int32) (hz : zH), k95 z0 z1 z2 z3 hz = some (ro_, ho_) → zq_wp sc (d + 1) 231 95 [some (.ref z0), some (.int z1), some (.int z2), some (.int z3), none, none, none, none, none, none] [] hz (some (.int ro_), ho_)) → zm_plan_l79 sc n y47 y48 y49 y50 y51 h52 k95 = some (ro_, ho_) → zq_wp sc (d + 1) 231 79 [some (.ref y47), some (.int y48), some (.int y49), some (.int y50), some (.int y51), none, none, none, none, none] [] h52 (some (.int ro_), ho_) := by
  intro n
  induction n with
  | zero => intro y47 y48 y49 y50 y51 h52 k95 ro_ ho_ hk95 hf; cases hf
  | succ n ih =>
    intro y47 y48 y49 y50 y51 h52 k95 ro_ ho_ hk95 hf
    refine zq_wg 2 (pc' := 82) (lv' := [some (.ref y47), some (.int y48), some (.int y49), some (.int y50), some (.int y51), none, none, none, none, none]) (st' := [.int y48, .int y51]) (h' := h52) rfl ?_
    refine zr_if (y48 ≤ y51) 95 85 (st' := []) rfl rfl (fun b53 => ?_) (fun b53 => ?_)
    · have hf := zo_t hf b53
      refine zq_fg [some (.ref y47), some (.int y48), some (.int y49), some (.int y50), none, none, none, none, none, none] (zq_lvle_s (zq_lvle_s (zq_lvle_s (zq_lvle_s (zq_lvle_n (zq_lvle_s (zq_lvle_s (zq_lvle_s (zq_lvle_s (zq_lvle_s zq_lvle_nil)))))))))) ?_
      exact hk95 y47 y48 y49 y50 h52 hf
    · have hf := zo_f hf b53
      refine zq_wg 6 (pc' := 79) (lv' := [some (.ref y47), some (.int y48), some (.int y49), some (.int ((3 : Int32) * y50)), some (.int (y51 + (1 : Int32))), none, none, none, none, none]) (st' := []) (h' := h52) rfl ?_
      exact ih y47 y48 y49 ((3 : Int32) * y50) (y51 + (1 : Int32)) h52 _ _ _ hk95 hf
set_option maxRecDepth 4000 in
theorem zm_plan_l109_ok (sc : zX) (d : Nat) (hd : 69 ≤ d) : ∀ (n : Nat) (y63 : Nat) (y64 : Int32) (y65 : Int32) (y66 : Int32) (y67 : Int32) (y68 : Int64) (y69 : Int32) (h70 : zH) (k168 : Nat → Int32 → Int32 → Int32 → Int64 → zH → Option (Int32 × zH)) (ro_ : Int32) (ho_ : zH), (∀ (z0 : Nat) (z1 : Int32) (z2 : Int32) (z3 : Int32) (z4 : Int64) (hz : zH), k168 z0 z1 z2 z3 z4 hz = some (ro_, ho_) → zq_wp sc (d + 1) 231 168 [some (.ref z0), some (.int z1), some (.int z2), none, some (.int z3), some (.long z4), none, none, none, none] [] hz (some (.int ro_), ho_)) → zm_plan_l109 sc n y63 y64 y65 y66 y67 y68 y69 h70 k168 = some (ro_, ho_) → zq_wp sc (d + 1) 231 109 [some (.ref y63), some (.int y64), some (.int y65), some (.int y66), some (.int y67), some (.long y68), none, some (.int y69), none, none] [] h70 (some (.int ro_), ho_) := by
  intro n
  induction n with
  | zero => intro y63 y64 y65 y66 y67 y68 y69 h70 k168 ro_ ho_ hk168 hf; cases hf
  | succ n ih =>
    intro y63 y64 y65 y66 y67 y68 y69 h70 k168 ro_ ho_ hk168 hf
    refine zq_wg 2 (pc' := 112) (lv' := [some (.ref y63), some (.int y64), some (.int y65), some (.int y66), some (.int y67), some (.long y68), none, some (.int y69), none, none]) (st' := [.int y66, .int y69]) (h' := h70) rfl ?_
    refine zr_if (y66 ≤ y69) 168 115 (st' := []) rfl rfl (fun b71 => ?_) (fun b71 => ?_)
    · have hf := zo_t hf b71
      refine zq_fg [some (.ref y63), some (.int y64), some (.int y65), none, some (.int y67), some (.long y68), none, none, none, none] (zq_lvle_s (zq_lvle_s (zq_lvle_s (zq_lvle_n (zq_lvle_s (zq_lvle_s (zq_lvle_s (zq_lvle_n (zq_lvle_s (zq_lvle_s zq_lvle_nil)))))))))) ?_
      exact hk168 y63 y64 y65 y67 y68 h70 hf
    · have hf := zo_f hf b71
      refine zq_wg 3 (pc' := 119) (lv' := [some (.ref y63), some (.int y64), some (.int y65), some (.int y66), some (.int y67), some (.long y68), none, some (.int y69), none, none]) (st' := [.int y64, .int y69, .ref y63]) (h' := h70) rfl ?_
      obtain ⟨v73, h72, e74, hf⟩ := zo_c_s hf
      refine zr_cs zq_m233 [.int y69, .int y64] [.ref y63] rfl rfl (by decide) rfl rfl rfl (Nat.le_of_ble_eq_true rfl) (Nat.le_of_ble_eq_true rfl) (zm_turned_ok sc d (by omega) e74) ?_
      refine zq_wg 0 (pc' := 122) (lv' := [some (.ref y63), some (.int y64), some (.int y65), some (.int y66), some (.int y67), some (.long y68), none, some (.int y69), none, none]) (st' := [.int v73, .ref y63]) (h' := h72) rfl ?_
      refine zq_wg 1 (pc' := 123) (lv' := [some (.ref y63), some (.int y64), some (.int y65), some (.int y66), some (.int y67), some (.long y68), none, some (.int y69), none, none]) (st' := [.int y64, .int v73, .ref y63]) (h' := h72) rfl ?_
      obtain ⟨e78, v76, h75, e77, hf⟩ := zo_v_s hf
      refine zr_cv zq_m232 [.int v73, .int y64] [] rfl rfl rfl rfl rfl (Nat.le_of_ble_eq_true rfl) (Nat.le_of_ble_eq_true rfl) e78 (zm_frontsBy_ok sc d (by omega) e77) ?_
      refine zq_wg 0 (pc' := 126) (lv' := [some (.ref y63), some (.int y64), some (.int y65), some (.int y66), some (.int y67), some (.long y68), none, some (.int y69), none, none]) (st' := [.long v76]) (h' := h75) rfl ?_
      refine zq_wg 4 (pc' := 133) (lv' := [some (.ref y63), some (.int y64), some (.int y65), some (.int y66), some (.int y67), some (.long y68), none, some (.int y69), some (.long v76), none]) (st' := [.int (lg_cmp v76 y68)]) (h' := h75) rfl ?_
      obtain ⟨g143_79, hg143_79, hf⟩ := zo_lx hf
      have kg143_79 : ∀ (x79 : Int32), g143_79 x79 = some (ro_, ho_) → zq_wp sc (d + 1) 231 143 [some (.ref y63), some (.int y64), some (.int y65), some (.int y66), some (.int y67), some (.long y68), none, some (.int y69), some (.long v76), none] [.int x79] h75 (some (.int ro_), ho_) := by
        intro x79 hf
        rw [hg143_79] at hf
        refine zq_wg 4 (pc' := 150) (lv' := [some (.ref y63), some (.int y64), some (.int y65), some (.int y66), some (.int x79), some (.long y68), none, some (.int y69), some (.long v76), none]) (st' := [.int (lg_cmp v76 y68)]) (h' := h75) rfl ?_
        obtain ⟨g160_80, hg160_80, hf⟩ := zo_lx hf
        have kg160_80 : ∀ (x80 : Int64), g160_80 x80 = some (ro_, ho_) → zq_wp sc (d + 1) 231 160 [some (.ref y63), some (.int y64), some (.int y65), some (.int y66), some (.int x79), some (.long y68), none, some (.int y69), some (.long v76), none] [.long x80] h75 (some (.int ro_), ho_) := by
          intro x80 hf
          rw [hg160_80] at hf
          refine zq_wg 3 (pc' := 109) (lv' := [some (.ref y63), some (.int y64), some (.int y65), some (.int y66), some (.int x79), some (.long x80), none, some (.int (y69 + (1 : Int32))), some (.long v76), none]) (st' := []) (h' := h75) rfl ?_
          refine zq_fg [some (.ref y63), some (.int y64), some (.int y65), some (.int y66), some (.int x79), some (.long x80), none, some (.int (y69 + (1 : Int32))), none, none] (zq_lvle_s (zq_lvle_s (zq_lvle_s (zq_lvle_s (zq_lvle_s (zq_lvle_s (zq_lvle_s (zq_lvle_s (zq_lvle_n (zq_lvle_s zq_lvle_nil)))))))))) ?_
          exact ih y63 y64 y65 y66 x79 x80 (y69 + (1 : Int32)) h75 _ _ _ hk168 hf
        refine zr_if ((lg_cmp v76 y68) ≤ 0) 158 153 (st' := []) rfl rfl (fun b81 => ?_) (fun b81 => ?_)
        · have hf := zo_lt hf b81
          refine zq_wg 1 (pc' := 160) (lv' := [some (.ref y63), some (.int y64), some (.int y65), some (.int y66), some (.int x79), some (.long y68), none, some (.int y69), some (.long v76), none]) (st' := [.long y68]) (h' := h75) rfl ?_
          exact kg160_80 _ hf
        · have hf := zo_lf hf b81
          refine zq_wg 2 (pc' := 160) (lv' := [some (.ref y63), some (.int y64), some (.int y65), some (.int y66), some (.int x79), some (.long y68), none, some (.int y69), some (.long v76), none]) (st' := [.long v76]) (h' := h75) rfl ?_
          exact kg160_80 _ hf
      refine zr_if ((lg_cmp v76 y68) ≤ 0) 141 136 (st' := []) rfl rfl (fun b82 => ?_) (fun b82 => ?_)
      · have hf := zo_lt hf b82
        refine zq_wg 1 (pc' := 143) (lv' := [some (.ref y63), some (.int y64), some (.int y65), some (.int y66), some (.int y67), some (.long y68), none, some (.int y69), some (.long v76), none]) (st' := [.int y67]) (h' := h75) rfl ?_
        exact kg143_79 _ hf
      · have hf := zo_lf hf b82
        refine zq_wg 2 (pc' := 143) (lv' := [some (.ref y63), some (.int y64), some (.int y65), some (.int y66), some (.int y67), some (.long y68), none, some (.int y69), some (.long v76), none]) (st' := [.int y69]) (h' := h75) rfl ?_
        exact kg143_79 _ hf
set_option maxRecDepth 4000 in
theorem zm_plan_l179_ok (sc : zX) (d : Nat) (hd : 69 ≤ d) : ∀ (n : Nat) (y92 : Nat) (y93 : Int32) (y94 : Int64) (y95 : Int32) (y96 : Int32) (h97 : zH) (k197 : Nat → Int32 → Int64 → Int32 → zH → Option (Int32 × zH)) (ro_ : Int32) (ho_ : zH), (∀ (z0 : Nat) (z1 : Int32) (z2 : Int64) (z3 : Int32) (hz : zH), k197 z0 z1 z2 z3 hz = some (ro_, ho_) → zq_wp sc (d + 1) 231 197 [some (.ref z0), none, some (.int z1), none, none, some (.long z2), none, some (.int z3), none, none] [] hz (some (.int ro_), ho_)) → zm_plan_l179 sc n y92 y93 y94 y95 y96 h97 k197 = some (ro_, ho_) → zq_wp sc (d + 1) 231 179 [some (.ref y92), none, some (.int y93), none, none, some (.long y94), none, some (.int y95), some (.int y96), none] [] h97 (some (.int ro_), ho_) := by
  intro n
  induction n with
  | zero => intro y92 y93 y94 y95 y96 h97 k197 ro_ ho_ hk197 hf; cases hf
  | succ n ih =>
    intro y92 y93 y94 y95 y96 h97 k197 ro_ ho_ hk197 hf
    refine zq_wg 2 (pc' := 182) (lv' := [some (.ref y92), none, some (.int y93), none, none, some (.long y94), none, some (.int y95), some (.int y96), none]) (st' := [.int y93, .int y96]) (h' := h97) rfl ?_
    refine zr_if (y93 ≤ y96) 197 185 (st' := []) rfl rfl (fun b98 => ?_) (fun b98 => ?_)
    · have hf := zo_t hf b98
      refine zq_fg [some (.ref y92), none, some (.int y93), none, none, some (.long y94), none, some (.int y95), none, none] (zq_lvle_s (zq_lvle_s (zq_lvle_s (zq_lvle_s (zq_lvle_s (zq_lvle_s (zq_lvle_s (zq_lvle_s (zq_lvle_n (zq_lvle_s zq_lvle_nil)))))))))) ?_
      exact hk197 y92 y93 y94 y95 h97 hf
    · have hf := zo_f hf b98
      refine zq_wg 2 (pc' := 188) (lv' := [some (.ref y92), none, some (.int y93), none, none, some (.long y94), none, some (.int y95), some (.int y96), none]) (st' := [.int (3 : Int32), .int y95]) (h' := h97) rfl ?_
      obtain ⟨v99, e100, hf⟩ := zo_b_s hf
      refine zr_idiv rfl e100 ?_
      refine zq_wg 3 (pc' := 179) (lv' := [some (.ref y92), none, some (.int y93), none, none, some (.long y94), none, some (.int v99), some (.int (y96 + (1 : Int32))), none]) (st' := []) (h' := h97) rfl ?_
      exact ih y92 y93 y94 v99 (y96 + (1 : Int32)) h97 _ _ _ hk197 hf
set_option maxRecDepth 4000 in
theorem zm_plan_ok (sc : zX) (d : Nat) (hd : 70 ≤ d) {a0 : Nat} {a1 : Int32} {a2 : Int32} {h : zH} {ro_ : Int32} {ho_ : zH} (hf : zm_plan sc a0 a1 a2 h = some (ro_, ho_)) : zq_wm sc d 231 [.ref a0, .int a1, .int a2] h (some (.int ro_), ho_) := by
  unfold zm_plan at hf
  obtain ⟨d, rfl⟩ : ∃ d', d = d' + 1 := ⟨d - 1, by omega⟩
  have hd : 69 ≤ d := by omega
  show zq_wp sc (d + 1) 231 0 [some (.ref a0), some (.int a1), some (.int a2), none, none, none, none, none, none, none] [] h _
  refine zq_wg 2 (pc' := 2) (lv' := [some (.ref a0), some (.int a1), some (.int a2), none, none, none, none, none, none, none]) (st' := [.int (0 : Int32), .ref a0]) (h' := h) rfl ?_
  obtain ⟨h1, e2, hf⟩ := zo_b_s hf
  refine zr_pI rfl rfl (by decide) rfl rfl e2 ?_
  refine zq_wg 3 (pc' := 8) (lv' := [some (.ref a0), some (.int a1), some (.int a2), none, none, none, none, none, none, none]) (st' := [.int (5 : Int32), .int (1 : Int32), .int a1]) (h' := h1) rfl ?_
  obtain ⟨v4, h3, e5, hf⟩ := zo_c_s hf
  refine zr_cs zq_m173 [.int a1, .int (1 : Int32), .int (5 : Int32)] [] rfl rfl (by decide) rfl rfl rfl (Nat.le_of_ble_eq_true rfl) (Nat.le_of_ble_eq_true rfl) (zm_within_ok sc d (by omega) e5) ?_
  refine zq_wg 0 (pc' := 11) (lv' := [some (.ref a0), some (.int a1), some (.int a2), none, none, none, none, none, none, none]) (st' := [.int v4]) (h' := h3) rfl ?_
  refine zr_if (v4 = 0) 23 14 (st' := []) rfl rfl (fun b6 => ?_) (fun b6 => ?_)
  · have hf := zo_t hf b6
    refine zq_wg 1 (pc' := 24) (lv' := [some (.ref a0), some (.int a1), some (.int a2), none, none, none, none, none, none, none]) (st' := [.int (-1 : Int32)]) (h' := h3) rfl ?_
    exact zr_ri rfl rfl rfl hf
  · have hf := zo_f hf b6
    refine zq_wg 3 (pc' := 17) (lv' := [some (.ref a0), some (.int a1), some (.int a2), none, none, none, none, none, none, none]) (st' := [.int a1, .int (0 : Int32), .int a2]) (h' := h3) rfl ?_
    obtain ⟨v8, h7, e9, hf⟩ := zo_c_s hf
    refine zr_cs zq_m173 [.int a2, .int (0 : Int32), .int a1] [] rfl rfl (by decide) rfl rfl rfl (Nat.le_of_ble_eq_true rfl) (Nat.le_of_ble_eq_true rfl) (zm_within_ok sc d (by omega) e9) ?_
    refine zq_wg 0 (pc' := 20) (lv' := [some (.ref a0), some (.int a1), some (.int a2), none, none, none, none, none, none, none]) (st' := [.int v8]) (h' := h7) rfl ?_
    refine zr_if (v8 = 0) 23 25 (st' := []) rfl rfl (fun b10 => ?_) (fun b10 => ?_)
    · have hf := zo_t hf b10
      refine zq_wg 1 (pc' := 24) (lv' := [some (.ref a0), some (.int a1), some (.int a2), none, none, none, none, none, none, none]) (st' := [.int (-1 : Int32)]) (h' := h7) rfl ?_
      exact zr_ri rfl rfl rfl hf
    · have hf := zo_f hf b10
      refine zq_wg 1 (pc' := 26) (lv' := [some (.ref a0), some (.int a1), some (.int a2), none, none, none, none, none, none, none]) (st' := [.ref a0]) (h' := h7) rfl ?_
      obtain ⟨e14, w12, h11, e13, hf⟩ := zo_v_s hf
      refine zr_cv zq_m225 [] [] rfl rfl rfl rfl rfl (Nat.le_of_ble_eq_true rfl) (Nat.le_of_ble_eq_true rfl) e14 (zm_goesThroughWays_ok sc d (by omega) e13) ?_
      refine zq_wg 0 (pc' := 29) (lv' := [some (.ref a0), some (.int a1), some (.int a2), none, none, none, none, none, none, none]) (st' := []) (h' := h11) rfl ?_
      refine zq_wg 2 (pc' := 31) (lv' := [some (.ref a0), some (.int a1), some (.int a2), some (.int (0 : Int32)), none, none, none, none, none, none]) (st' := []) (h' := h11) rfl ?_
      refine zm_plan_l31_ok sc d hd zo_F a0 a1 a2 (0 : Int32) h11 _ _ _ ?_ hf
      · intro x43 x44 x45 h46 hf
        refine zq_wg 4 (pc' := 79) (lv' := [some (.ref x43), some (.int x44), some (.int x45), some (.int (1 : Int32)), some (.int (0 : Int32)), none, none, none, none, none]) (st' := []) (h' := h46) rfl ?_
        refine zm_plan_l79_ok sc d hd zo_F x43 x44 x45 (1 : Int32) (0 : Int32) h46 _ _ _ ?_ hf
        · intro x54 x55 x56 x57 h58 hf
          refine zq_wg 5 (pc' := 101) (lv' := [some (.ref x54), some (.int x55), some (.int x56), some (.int x57), some (.int (0 : Int32)), none, none, none, none, none]) (st' := [.int x55, .int (0 : Int32), .ref x54]) (h' := h58) rfl ?_
          obtain ⟨e62, v60, h59, e61, hf⟩ := zo_v_s hf
          refine zr_cv zq_m232 [.int (0 : Int32), .int x55] [] rfl rfl rfl rfl rfl (Nat.le_of_ble_eq_true rfl) (Nat.le_of_ble_eq_true rfl) e62 (zm_frontsBy_ok sc d (by omega) e61) ?_
          refine zq_wg 0 (pc' := 104) (lv' := [some (.ref x54), some (.int x55), some (.int x56), some (.int x57), some (.int (0 : Int32)), none, none, none, none, none]) (st' := [.long v60]) (h' := h59) rfl ?_
          refine zq_wg 3 (pc' := 109) (lv' := [some (.ref x54), some (.int x55), some (.int x56), some (.int x57), some (.int (0 : Int32)), some (.long v60), none, some (.int (1 : Int32)), none, none]) (st' := []) (h' := h59) rfl ?_
          refine zm_plan_l109_ok sc d hd zo_F x54 x55 x56 x57 (0 : Int32) v60 (1 : Int32) h59 _ _ _ ?_ hf
          · intro x83 x84 x85 x86 x87 h88 hf
            refine zq_wg 2 (pc' := 171) (lv' := [some (.ref x83), some (.int x84), some (.int x85), none, some (.int x86), some (.long x87), none, none, none, none]) (st' := [.int x84, .int x86]) (h' := h88) rfl ?_
            obtain ⟨v90, h89, e91, hf⟩ := zo_c_s hf
            refine zr_cs zq_m233 [.int x86, .int x84] [] rfl rfl (by decide) rfl rfl rfl (Nat.le_of_ble_eq_true rfl) (Nat.le_of_ble_eq_true rfl) (zm_turned_ok sc d (by omega) e91) ?_
            refine zq_wg 0 (pc' := 174) (lv' := [some (.ref x83), some (.int x84), some (.int x85), none, some (.int x86), some (.long x87), none, none, none, none]) (st' := [.int v90]) (h' := h89) rfl ?_
            refine zq_wg 3 (pc' := 179) (lv' := [some (.ref x83), some (.int x84), some (.int x85), none, some (.int x86), some (.long x87), none, some (.int v90), some (.int (1 : Int32)), none]) (st' := []) (h' := h89) rfl ?_
            refine zq_fg [some (.ref x83), none, some (.int x85), none, none, some (.long x87), none, some (.int v90), some (.int (1 : Int32)), none] (zq_lvle_s (zq_lvle_n (zq_lvle_s (zq_lvle_s (zq_lvle_n (zq_lvle_s (zq_lvle_s (zq_lvle_s (zq_lvle_s (zq_lvle_s zq_lvle_nil)))))))))) ?_
            refine zm_plan_l179_ok sc d hd zo_F x83 x85 x87 v90 (1 : Int32) h89 _ _ _ ?_ hf
            · intro x101 x102 x103 x104 h105 hf
              refine zq_wg 1 (pc' := 198) (lv' := [some (.ref x101), none, some (.int x102), none, none, some (.long x103), none, some (.int x104), none, none]) (st' := [.int x102]) (h' := h105) rfl ?_
              refine zr_if (x102 = 0) 201 217 (st' := []) rfl rfl (fun b106 => ?_) (fun b106 => ?_)
              · have hf := zo_t hf b106
                refine zq_wg 4 (pc' := 208) (lv' := [some (.ref x101), none, some (.int x102), none, none, some (.long x103), none, some (.int x104), none, none]) (st' := [.ref x101, .long (x103 * (1000 : Int64))]) (h' := h105) rfl ?_
                obtain ⟨v107, e108, hf⟩ := zo_b_s hf
                refine zr_gI rfl rfl (by decide) rfl e108 ?_
                refine zq_wg 1 (pc' := 212) (lv' := [some (.ref x101), none, some (.int x102), none, none, some (.long x103), none, some (.int x104), none, none]) (st' := [.long v107.toInt64, .long (x103 * (1000 : Int64))]) (h' := h105) rfl ?_
                obtain ⟨v109, e110, hf⟩ := zo_b_s hf
                refine zr_ldiv rfl e110 ?_
                refine zq_wg 2 (pc' := 221) (lv' := [some (.ref x101), none, some (.int x102), none, none, some (.long x103), none, some (.int x104), none, none]) (st' := [.int v109.toInt32]) (h' := h105) rfl ?_
                exact zr_ri rfl rfl rfl hf
              · have hf := zo_f hf b106
                refine zq_wg 2 (pc' := 220) (lv' := [some (.ref x101), none, some (.int x102), none, none, some (.long x103), none, some (.int x104), none, none]) (st' := [.int (3 : Int32), .int x104]) (h' := h105) rfl ?_
                obtain ⟨v111, e112, hf⟩ := zo_b_s hf
                refine zr_irem rfl e112 ?_
                exact zr_ri rfl rfl rfl hf
set_option maxRecDepth 4000 in
def zm_likes (sc : zX) (a0 : Nat) (a1 : Int32) (a2 : Int32) (h : zH) : Option (Int32 × zH) := zo_v h a0 10 (zm_laysFacts sc a0 a1 a2 h) (fun w2 h1 => zo_b (zo_gR h1 10 a0 10) (fun v5 => zo_b (zq_rdI sc h1 v5 (8 : Int32)) (fun v7 => if 0 ≤ v7 then (zo_b (zo_gR h1 10 a0 10) (fun v10 => zo_b (zq_rdI sc h1 v10 (8 : Int32)) (fun v12 => zo_v h1 a0 10 (zm_worthAt sc a0 v12 h1) (fun v15 h14 => some (v15, h14))))) else (zo_v h1 a0 10 (zm_postOf sc a0 a2 (1 : Int32) h1) (fun v19 h18 => some (v19, h18))))))
set_option maxRecDepth 4000 in
theorem zm_likes_ok (sc : zX) (d : Nat) (hd : 2 ≤ d) {a0 : Nat} {a1 : Int32} {a2 : Int32} {h : zH} {ro_ : Int32} {ho_ : zH} (hf : zm_likes sc a0 a1 a2 h = some (ro_, ho_)) : zq_wm sc d 237 [.ref a0, .int a1, .int a2] h (some (.int ro_), ho_) := by
  unfold zm_likes at hf
  obtain ⟨d, rfl⟩ : ∃ d', d = d' + 1 := ⟨d - 1, by omega⟩
  have hd : 1 ≤ d := by omega
  show zq_wp sc (d + 1) 237 0 [some (.ref a0), some (.int a1), some (.int a2)] [] h _
  refine zq_wg 3 (pc' := 3) (lv' := [some (.ref a0), some (.int a1), some (.int a2)]) (st' := [.int a2, .int a1, .ref a0]) (h' := h) rfl ?_
  obtain ⟨e4, w2, h1, e3, hf⟩ := zo_v_s hf
  refine zr_cv zq_m192 [.int a1, .int a2] [] rfl rfl rfl rfl rfl (Nat.le_of_ble_eq_true rfl) (Nat.le_of_ble_eq_true rfl) e4 (zm_laysFacts_ok sc d (by omega) e3) ?_
  refine zq_wg 0 (pc' := 6) (lv' := [some (.ref a0), some (.int a1), some (.int a2)]) (st' := []) (h' := h1) rfl ?_
  refine zq_wg 1 (pc' := 7) (lv' := [some (.ref a0), some (.int a1), some (.int a2)]) (st' := [.ref a0]) (h' := h1) rfl ?_
  obtain ⟨v5, e6, hf⟩ := zo_b_s hf
  refine zr_gR rfl rfl (by decide) rfl e6 ?_
  refine zq_wg 1 (pc' := 12) (lv' := [some (.ref a0), some (.int a1), some (.int a2)]) (st' := [.int (8 : Int32), .ref v5]) (h' := h1) rfl ?_
  obtain ⟨v7, e8, hf⟩ := zo_b_s hf
  refine zr_iald rfl e8 ?_
  refine zr_if (0 ≤ v7) 25 16 (st' := []) rfl rfl (fun b9 => ?_) (fun b9 => ?_)
  · have hf := zo_t hf b9
    refine zq_wg 2 (pc' := 27) (lv' := [some (.ref a0), some (.int a1), some (.int a2)]) (st' := [.ref a0, .ref a0]) (h' := h1) rfl ?_
    obtain ⟨v10, e11, hf⟩ := zo_b_s hf
    refine zr_gR rfl rfl (by decide) rfl e11 ?_
    refine zq_wg 1 (pc' := 32) (lv' := [some (.ref a0), some (.int a1), some (.int a2)]) (st' := [.int (8 : Int32), .ref v10, .ref a0]) (h' := h1) rfl ?_
    obtain ⟨v12, e13, hf⟩ := zo_b_s hf
    refine zr_iald rfl e13 ?_
    obtain ⟨e17, v15, h14, e16, hf⟩ := zo_v_s hf
    refine zr_cv zq_m194 [.int v12] [] rfl rfl rfl rfl rfl (Nat.le_of_ble_eq_true rfl) (Nat.le_of_ble_eq_true rfl) e17 (zm_worthAt_ok sc d (by omega) e16) ?_
    refine zq_wg 0 (pc' := 36) (lv' := [some (.ref a0), some (.int a1), some (.int a2)]) (st' := [.int v15]) (h' := h14) rfl ?_
    exact zr_ri rfl rfl rfl hf
  · have hf := zo_f hf b9
    refine zq_wg 3 (pc' := 19) (lv' := [some (.ref a0), some (.int a1), some (.int a2)]) (st' := [.int (1 : Int32), .int a2, .ref a0]) (h' := h1) rfl ?_
    obtain ⟨e21, v19, h18, e20, hf⟩ := zo_v_s hf
    refine zr_cv zq_m193 [.int a2, .int (1 : Int32)] [] rfl rfl rfl rfl rfl (Nat.le_of_ble_eq_true rfl) (Nat.le_of_ble_eq_true rfl) e21 (zm_postOf_ok sc d (by omega) e20) ?_
    refine zq_wg 0 (pc' := 22) (lv' := [some (.ref a0), some (.int a1), some (.int a2)]) (st' := [.int v19]) (h' := h18) rfl ?_
    refine zq_wg 1 (pc' := 36) (lv' := [some (.ref a0), some (.int a1), some (.int a2)]) (st' := [.int v19]) (h' := h18) rfl ?_
    exact zr_ri rfl rfl rfl hf
set_option maxRecDepth 4000 in
def zm_findLooks_l27 (sc : zX) : Nat → Nat → Int32 → Int32 → Int32 → Int32 → zH → (Nat → Int32 → Int32 → zH → Option (Unit × zH)) → Option (Unit × zH)
  | 0, _, _, _, _, _, _, _ => none
  | n + 1, y18, y19, y20, y21, y22, h23, k124 => zo_v h23 y18 10 (zm_posts sc y18 h23) (fun v25 h24 => if v25 ≤ y22 then (k124 y18 y19 y20 h24) else (if y21 < 0 then (k124 y18 y19 y20 h24) else (if ((y19 >>> (y21 &&& 31)) &&& (1 : Int32)) = (1 : Int32) then (zo_l (fun (x31 : Nat) (x32 : Int32) (x33 : Int32) (x34 : Int32) (x35 : Int32) (x36 : Int32) (h37 : zH) => zo_b (zo_gR h37 10 x31 39) (fun v38 => zo_l (fun (x40 : Nat) (x41 : Int32) (x42 : Int32) (x43 : Int32) (x44 : Int32) (x45 : Nat) (x46 : Int32) (x47 : Int32) (h48 : zH) => zo_b (zq_wrX 1 h48 x45 x46 x47) (fun h49 => zm_findLooks_l27 sc n x40 x41 x42 x43 (x44 + (1 : Int32)) h49 k124)) (fun j117_48 => if x36 = 0 then (zo_b (zo_gR h37 10 x31 39) (fun v52 => zo_b (zq_rdI sc h37 v52 x33) (fun v54 => j117_48 x31 x32 x33 x34 x35 v38 x33 v54 h37))) else (j117_48 x31 x32 x33 x34 x35 v38 x33 x35 h37)))) (fun j94_37 => zo_l (fun (x56 : Nat) (x57 : Int32) (x58 : Int32) (x59 : Int32) (x60 : Int32) (h61 : zH) => j94_37 x56 x57 x58 x59 x60 (0 : Int32) h61) (fun j93_61 => if ((y19 >>> (y22 &&& 31)) &&& (1 : Int32)) = (1 : Int32) then (zo_b (zo_gR h24 10 y18 39) (fun v63 => zo_b (zq_rdI sc h24 v63 y20) (fun v65 => zo_l (fun (x67 : Nat) (x68 : Int32) (x69 : Int32) (x70 : Int32) (x71 : Int32) (h72 : zH) => j94_37 x67 x68 x69 x70 x71 (1 : Int32) h72) (fun j89_72 => if v65 < 0 then (j89_72 y18 y19 y20 y21 y22 h24) else (zo_v h24 y18 10 (zm_likes sc y18 y20 y22 h24) (fun v75 h74 => zo_b (zo_gR h74 10 y18 39) (fun v78 => zo_b (zq_rdI sc h74 v78 y20) (fun v80 => zo_v h74 y18 10 (zm_likes sc y18 y20 v80 h74) (fun v83 h82 => if v75 ≤ v83 then (j93_61 y18 y19 y20 y21 y22 h82) else (j89_72 y18 y19 y20 y21 y22 h82)))))))))) else (j93_61 y18 y19 y20 y21 y22 h24)))) else (k124 y18 y19 y20 h24))))
set_option maxRecDepth 4000 in
def zm_findLooks_l2 (sc : zX) : Nat → Nat → Int32 → Int32 → zH → Option (Unit × zH)
  | 0, _, _, _, _ => none
  | n + 1, y1, y2, y3, h4 => zo_v h4 y1 10 (zm_men sc y1 h4) (fun v6 h5 => if v6 ≤ y3 then (some ((), h5)) else (zo_v h5 y1 10 (zm_postHeldBy sc y1 (0 : Int32) y3 h5) (fun v11 h10 => zo_b (zo_gR h10 10 y1 39) (fun v14 => zo_b (zq_wrX 1 h10 v14 y3 (-1 : Int32)) (fun h16 => zm_findLooks_l27 sc zo_F y1 y2 y3 v11 (0 : Int32) h16 (fun (x87 : Nat) (x88 : Int32) (x89 : Int32) (h90 : zH) => zm_findLooks_l2 sc n x87 x88 (x89 + (1 : Int32)) h90 ))))))
set_option maxRecDepth 4000 in
def zm_findLooks (sc : zX) (a0 : Nat) (a1 : Int32) (h : zH) : Option (Unit × zH) := zm_findLooks_l2 sc zo_F a0 a1 (0 : Int32) h 
set_option maxRecDepth 4000 in
theorem zm_findLooks_l27_ok (sc : zX) (d : Nat) (hd : 2 ≤ d) : ∀ (n : Nat) (y18 : Nat) (y19 : Int32) (y20 : Int32) (y21 : Int32) (y22 : Int32) (h23 : zH) (k124 : Nat → Int32 → Int32 → zH → Option (Unit × zH)) (ro_ : Unit) (ho_ : zH), (∀ (z0 : Nat) (z1 : Int32) (z2 : Int32) (hz : zH), k124 z0 z1 z2 hz = some (ro_, ho_) → zq_wp sc (d + 1) 236 124 [some (.ref z0), some (.int z1), some (.int z2), none, none, none] [] hz (none, ho_)) → zm_findLooks_l27 sc n y18 y19 y20 y21 y22 h23 k124 = some (ro_, ho_) → zq_wp sc (d + 1) 236 27 [some (.ref y18), some (.int y19), some (.int y20), some (.int y21), some (.int y22), none] [] h23 (none, ho_) := by
  intro n
  induction n with
  | zero => intro y18 y19 y20 y21 y22 h23 k124 ro_ ho_ hk124 hf; cases hf
  | succ n ih =>
    intro y18 y19 y20 y21 y22 h23 k124 ro_ ho_ hk124 hf
    refine zq_wg 2 (pc' := 30) (lv' := [some (.ref y18), some (.int y19), some (.int y20), some (.int y21), some (.int y22), none]) (st' := [.ref y18, .int y22]) (h' := h23) rfl ?_
    obtain ⟨e27, v25, h24, e26, hf⟩ := zo_v_s hf
    refine zr_cv zq_m151 [] [.int y22] rfl rfl rfl rfl rfl (Nat.le_of_ble_eq_true rfl) (Nat.le_of_ble_eq_true rfl) e27 (zm_posts_ok sc d (by omega) e26) ?_
    refine zq_wg 0 (pc' := 33) (lv' := [some (.ref y18), some (.int y19), some (.int y20), some (.int y21), some (.int y22), none]) (st' := [.int v25, .int y22]) (h' := h24) rfl ?_
    refine zr_if (v25 ≤ y22) 124 36 (st' := []) rfl rfl (fun b28 => ?_) (fun b28 => ?_)
    · have hf := zo_t hf b28
      refine zq_fg [some (.ref y18), some (.int y19), some (.int y20), none, none, none] (zq_lvle_s (zq_lvle_s (zq_lvle_s (zq_lvle_n (zq_lvle_n (zq_lvle_s zq_lvle_nil)))))) ?_
      exact hk124 y18 y19 y20 h24 hf
    · have hf := zo_f hf b28
      refine zq_wg 1 (pc' := 37) (lv' := [some (.ref y18), some (.int y19), some (.int y20), some (.int y21), some (.int y22), none]) (st' := [.int y21]) (h' := h24) rfl ?_
      refine zr_if (y21 < 0) 124 40 (st' := []) rfl rfl (fun b29 => ?_) (fun b29 => ?_)
      · have hf := zo_t hf b29
        refine zq_fg [some (.ref y18), some (.int y19), some (.int y20), none, none, none] (zq_lvle_s (zq_lvle_s (zq_lvle_s (zq_lvle_n (zq_lvle_n (zq_lvle_s zq_lvle_nil)))))) ?_
        exact hk124 y18 y19 y20 h24 hf
      · have hf := zo_f hf b29
        refine zq_wg 6 (pc' := 46) (lv' := [some (.ref y18), some (.int y19), some (.int y20), some (.int y21), some (.int y22), none]) (st' := [.int (1 : Int32), .int ((y19 >>> (y21 &&& 31)) &&& (1 : Int32))]) (h' := h24) rfl ?_
        refine zr_if (((y19 >>> (y21 &&& 31)) &&& (1 : Int32)) = (1 : Int32)) 49 124 (st' := []) rfl rfl (fun b30 => ?_) (fun b30 => ?_)
        · have hf := zo_t hf b30
          refine zq_wg 6 (pc' := 56) (lv' := [some (.ref y18), some (.int y19), some (.int y20), some (.int y21), some (.int y22), none]) (st' := [.int (1 : Int32), .int ((y19 >>> (y22 &&& 31)) &&& (1 : Int32))]) (h' := h24) rfl ?_
          obtain ⟨j94_37, hjj94_37, hf⟩ := zo_lj hf
          have kj94_37 : ∀ (x31 : Nat) (x32 : Int32) (x33 : Int32) (x34 : Int32) (x35 : Int32) (x36 : Int32) (h37 : zH), j94_37 x31 x32 x33 x34 x35 x36 h37 = some (ro_, ho_) → zq_wp sc (d + 1) 236 94 [some (.ref x31), some (.int x32), some (.int x33), some (.int x34), some (.int x35), none] [.int x36] h37 (none, ho_) := by
            intro x31 x32 x33 x34 x35 x36 h37 hf
            rw [hjj94_37] at hf
            refine zq_wg 2 (pc' := 97) (lv' := [some (.ref x31), some (.int x32), some (.int x33), some (.int x34), some (.int x35), some (.int x36)]) (st' := [.ref x31]) (h' := h37) rfl ?_
            obtain ⟨v38, e39, hf⟩ := zo_b_s hf
            refine zr_gR rfl rfl (by decide) rfl e39 ?_
            refine zq_wg 2 (pc' := 103) (lv' := [some (.ref x31), some (.int x32), some (.int x33), some (.int x34), some (.int x35), some (.int x36)]) (st' := [.int x36, .int x33, .ref v38]) (h' := h37) rfl ?_
            obtain ⟨j117_48, hjj117_48, hf⟩ := zo_lj hf
            have kj117_48 : ∀ (x40 : Nat) (x41 : Int32) (x42 : Int32) (x43 : Int32) (x44 : Int32) (x45 : Nat) (x46 : Int32) (x47 : Int32) (h48 : zH), j117_48 x40 x41 x42 x43 x44 x45 x46 x47 h48 = some (ro_, ho_) → zq_wp sc (d + 1) 236 117 [some (.ref x40), some (.int x41), some (.int x42), some (.int x43), some (.int x44), none] [.int x47, .int x46, .ref x45] h48 (none, ho_) := by
              intro x40 x41 x42 x43 x44 x45 x46 x47 h48 hf
              rw [hjj117_48] at hf
              obtain ⟨h49, e50, hf⟩ := zo_b_s hf
              refine zr_iast rfl e50 ?_
              refine zq_wg 2 (pc' := 27) (lv' := [some (.ref x40), some (.int x41), some (.int x42), some (.int x43), some (.int (x44 + (1 : Int32))), none]) (st' := []) (h' := h49) rfl ?_
              exact ih x40 x41 x42 x43 (x44 + (1 : Int32)) h49 _ _ _ hk124 hf
            refine zr_if (x36 = 0) 111 106 (st' := [.int x33, .ref v38]) rfl rfl (fun b51 => ?_) (fun b51 => ?_)
            · have hf := zo_t hf b51
              refine zq_wg 1 (pc' := 112) (lv' := [some (.ref x31), some (.int x32), some (.int x33), some (.int x34), some (.int x35), some (.int x36)]) (st' := [.ref x31, .int x33, .ref v38]) (h' := h37) rfl ?_
              obtain ⟨v52, e53, hf⟩ := zo_b_s hf
              refine zr_gR rfl rfl (by decide) rfl e53 ?_
              refine zq_wg 1 (pc' := 116) (lv' := [some (.ref x31), some (.int x32), some (.int x33), some (.int x34), some (.int x35), some (.int x36)]) (st' := [.int x33, .ref v52, .int x33, .ref v38]) (h' := h37) rfl ?_
              obtain ⟨v54, e55, hf⟩ := zo_b_s hf
              refine zr_iald rfl e55 ?_
              refine zq_fg [some (.ref x31), some (.int x32), some (.int x33), some (.int x34), some (.int x35), none] (zq_lvle_s (zq_lvle_s (zq_lvle_s (zq_lvle_s (zq_lvle_s (zq_lvle_n zq_lvle_nil)))))) ?_
              exact kj117_48 x31 x32 x33 x34 x35 v38 x33 v54 h37 hf
            · have hf := zo_f hf b51
              refine zq_wg 2 (pc' := 117) (lv' := [some (.ref x31), some (.int x32), some (.int x33), some (.int x34), some (.int x35), some (.int x36)]) (st' := [.int x35, .int x33, .ref v38]) (h' := h37) rfl ?_
              refine zq_fg [some (.ref x31), some (.int x32), some (.int x33), some (.int x34), some (.int x35), none] (zq_lvle_s (zq_lvle_s (zq_lvle_s (zq_lvle_s (zq_lvle_s (zq_lvle_n zq_lvle_nil)))))) ?_
              exact kj117_48 x31 x32 x33 x34 x35 v38 x33 x35 h37 hf
          obtain ⟨j93_61, hjj93_61, hf⟩ := zo_lj hf
          have kj93_61 : ∀ (x56 : Nat) (x57 : Int32) (x58 : Int32) (x59 : Int32) (x60 : Int32) (h61 : zH), j93_61 x56 x57 x58 x59 x60 h61 = some (ro_, ho_) → zq_wp sc (d + 1) 236 93 [some (.ref x56), some (.int x57), some (.int x58), some (.int x59), some (.int x60), none] [] h61 (none, ho_) := by
            intro x56 x57 x58 x59 x60 h61 hf
            rw [hjj93_61] at hf
            refine zq_wg 1 (pc' := 94) (lv' := [some (.ref x56), some (.int x57), some (.int x58), some (.int x59), some (.int x60), none]) (st' := [.int (0 : Int32)]) (h' := h61) rfl ?_
            exact kj94_37 x56 x57 x58 x59 x60 (0 : Int32) h61 hf
          refine zr_if (((y19 >>> (y22 &&& 31)) &&& (1 : Int32)) = (1 : Int32)) 59 93 (st' := []) rfl rfl (fun b62 => ?_) (fun b62 => ?_)
          · have hf := zo_t hf b62
            refine zq_wg 1 (pc' := 60) (lv' := [some (.ref y18), some (.int y19), some (.int y20), some (.int y21), some (.int y22), none]) (st' := [.ref y18]) (h' := h24) rfl ?_
            obtain ⟨v63, e64, hf⟩ := zo_b_s hf
            refine zr_gR rfl rfl (by decide) rfl e64 ?_
            refine zq_wg 1 (pc' := 64) (lv' := [some (.ref y18), some (.int y19), some (.int y20), some (.int y21), some (.int y22), none]) (st' := [.int y20, .ref v63]) (h' := h24) rfl ?_
            obtain ⟨v65, e66, hf⟩ := zo_b_s hf
            refine zr_iald rfl e66 ?_
            obtain ⟨j89_72, hjj89_72, hf⟩ := zo_lj hf
            have kj89_72 : ∀ (x67 : Nat) (x68 : Int32) (x69 : Int32) (x70 : Int32) (x71 : Int32) (h72 : zH), j89_72 x67 x68 x69 x70 x71 h72 = some (ro_, ho_) → zq_wp sc (d + 1) 236 89 [some (.ref x67), some (.int x68), some (.int x69), some (.int x70), some (.int x71), none] [] h72 (none, ho_) := by
              intro x67 x68 x69 x70 x71 h72 hf
              rw [hjj89_72] at hf
              refine zq_wg 2 (pc' := 94) (lv' := [some (.ref x67), some (.int x68), some (.int x69), some (.int x70), some (.int x71), none]) (st' := [.int (1 : Int32)]) (h' := h72) rfl ?_
              exact kj94_37 x67 x68 x69 x70 x71 (1 : Int32) h72 hf
            refine zr_if (v65 < 0) 89 68 (st' := []) rfl rfl (fun b73 => ?_) (fun b73 => ?_)
            · have hf := zo_t hf b73
              exact kj89_72 y18 y19 y20 y21 y22 h24 hf
            · have hf := zo_f hf b73
              refine zq_wg 3 (pc' := 72) (lv' := [some (.ref y18), some (.int y19), some (.int y20), some (.int y21), some (.int y22), none]) (st' := [.int y22, .int y20, .ref y18]) (h' := h24) rfl ?_
              obtain ⟨e77, v75, h74, e76, hf⟩ := zo_v_s hf
              refine zr_cv zq_m237 [.int y20, .int y22] [] rfl rfl rfl rfl rfl (Nat.le_of_ble_eq_true rfl) (Nat.le_of_ble_eq_true rfl) e77 (zm_likes_ok sc d (by omega) e76) ?_
              refine zq_wg 0 (pc' := 75) (lv' := [some (.ref y18), some (.int y19), some (.int y20), some (.int y21), some (.int y22), none]) (st' := [.int v75]) (h' := h74) rfl ?_
              refine zq_wg 3 (pc' := 78) (lv' := [some (.ref y18), some (.int y19), some (.int y20), some (.int y21), some (.int y22), none]) (st' := [.ref y18, .int y20, .ref y18, .int v75]) (h' := h74) rfl ?_
              obtain ⟨v78, e79, hf⟩ := zo_b_s hf
              refine zr_gR rfl rfl (by decide) rfl e79 ?_
              refine zq_wg 1 (pc' := 82) (lv' := [some (.ref y18), some (.int y19), some (.int y20), some (.int y21), some (.int y22), none]) (st' := [.int y20, .ref v78, .int y20, .ref y18, .int v75]) (h' := h74) rfl ?_
              obtain ⟨v80, e81, hf⟩ := zo_b_s hf
              refine zr_iald rfl e81 ?_
              obtain ⟨e85, v83, h82, e84, hf⟩ := zo_v_s hf
              refine zr_cv zq_m237 [.int y20, .int v80] [.int v75] rfl rfl rfl rfl rfl (Nat.le_of_ble_eq_true rfl) (Nat.le_of_ble_eq_true rfl) e85 (zm_likes_ok sc d (by omega) e84) ?_
              refine zq_wg 0 (pc' := 86) (lv' := [some (.ref y18), some (.int y19), some (.int y20), some (.int y21), some (.int y22), none]) (st' := [.int v83, .int v75]) (h' := h82) rfl ?_
              refine zr_if (v75 ≤ v83) 93 89 (st' := []) rfl rfl (fun b86 => ?_) (fun b86 => ?_)
              · have hf := zo_t hf b86
                exact kj93_61 y18 y19 y20 y21 y22 h82 hf
              · have hf := zo_f hf b86
                exact kj89_72 y18 y19 y20 y21 y22 h82 hf
          · have hf := zo_f hf b62
            exact kj93_61 y18 y19 y20 y21 y22 h24 hf
        · have hf := zo_f hf b30
          refine zq_fg [some (.ref y18), some (.int y19), some (.int y20), none, none, none] (zq_lvle_s (zq_lvle_s (zq_lvle_s (zq_lvle_n (zq_lvle_n (zq_lvle_s zq_lvle_nil)))))) ?_
          exact hk124 y18 y19 y20 h24 hf
set_option maxRecDepth 4000 in
theorem zm_findLooks_l2_ok (sc : zX) (d : Nat) (hd : 2 ≤ d) : ∀ (n : Nat) (y1 : Nat) (y2 : Int32) (y3 : Int32) (h4 : zH) (ro_ : Unit) (ho_ : zH),  zm_findLooks_l2 sc n y1 y2 y3 h4  = some (ro_, ho_) → zq_wp sc (d + 1) 236 2 [some (.ref y1), some (.int y2), some (.int y3), none, none, none] [] h4 (none, ho_) := by
  intro n
  induction n with
  | zero => intro y1 y2 y3 h4 ro_ ho_ hf; cases hf
  | succ n ih =>
    intro y1 y2 y3 h4 ro_ ho_ hf
    refine zq_wg 2 (pc' := 4) (lv' := [some (.ref y1), some (.int y2), some (.int y3), none, none, none]) (st' := [.ref y1, .int y3]) (h' := h4) rfl ?_
    obtain ⟨e8, v6, h5, e7, hf⟩ := zo_v_s hf
    refine zr_cv zq_m152 [] [.int y3] rfl rfl rfl rfl rfl (Nat.le_of_ble_eq_true rfl) (Nat.le_of_ble_eq_true rfl) e8 (zm_men_ok sc d (by omega) e7) ?_
    refine zq_wg 0 (pc' := 7) (lv' := [some (.ref y1), some (.int y2), some (.int y3), none, none, none]) (st' := [.int v6, .int y3]) (h' := h5) rfl ?_
    refine zr_if (v6 ≤ y3) 130 10 (st' := []) rfl rfl (fun b9 => ?_) (fun b9 => ?_)
    · have hf := zo_t hf b9
      exact zr_rv rfl rfl hf
    · have hf := zo_f hf b9
      refine zq_wg 3 (pc' := 13) (lv' := [some (.ref y1), some (.int y2), some (.int y3), none, none, none]) (st' := [.int y3, .int (0 : Int32), .ref y1]) (h' := h5) rfl ?_
      obtain ⟨e13, v11, h10, e12, hf⟩ := zo_v_s hf
      refine zr_cv zq_m199 [.int (0 : Int32), .int y3] [] rfl rfl rfl rfl rfl (Nat.le_of_ble_eq_true rfl) (Nat.le_of_ble_eq_true rfl) e13 (zm_postHeldBy_ok sc d (by omega) e12) ?_
      refine zq_wg 0 (pc' := 16) (lv' := [some (.ref y1), some (.int y2), some (.int y3), none, none, none]) (st' := [.int v11]) (h' := h10) rfl ?_
      refine zq_wg 2 (pc' := 18) (lv' := [some (.ref y1), some (.int y2), some (.int y3), some (.int v11), none, none]) (st' := [.ref y1]) (h' := h10) rfl ?_
      obtain ⟨v14, e15, hf⟩ := zo_b_s hf
      refine zr_gR rfl rfl (by decide) rfl e15 ?_
      refine zq_wg 2 (pc' := 23) (lv' := [some (.ref y1), some (.int y2), some (.int y3), some (.int v11), none, none]) (st' := [.int (-1 : Int32), .int y3, .ref v14]) (h' := h10) rfl ?_
      obtain ⟨h16, e17, hf⟩ := zo_b_s hf
      refine zr_iast rfl e17 ?_
      refine zq_wg 2 (pc' := 27) (lv' := [some (.ref y1), some (.int y2), some (.int y3), some (.int v11), some (.int (0 : Int32)), none]) (st' := []) (h' := h16) rfl ?_
      refine zm_findLooks_l27_ok sc d hd zo_F y1 y2 y3 v11 (0 : Int32) h16 _ _ _ ?_ hf
      · intro x87 x88 x89 h90 hf
        refine zq_wg 2 (pc' := 2) (lv' := [some (.ref x87), some (.int x88), some (.int (x89 + (1 : Int32))), none, none, none]) (st' := []) (h' := h90) rfl ?_
        exact ih x87 x88 (x89 + (1 : Int32)) h90 _ _ hf
set_option maxRecDepth 4000 in
theorem zm_findLooks_ok (sc : zX) (d : Nat) (hd : 3 ≤ d) {a0 : Nat} {a1 : Int32} {h : zH} {ro_ : Unit} {ho_ : zH} (hf : zm_findLooks sc a0 a1 h = some (ro_, ho_)) : zq_wm sc d 236 [.ref a0, .int a1] h (none, ho_) := by
  unfold zm_findLooks at hf
  obtain ⟨d, rfl⟩ : ∃ d', d = d' + 1 := ⟨d - 1, by omega⟩
  have hd : 2 ≤ d := by omega
  show zq_wp sc (d + 1) 236 0 [some (.ref a0), some (.int a1), none, none, none, none] [] h _
  refine zq_wg 2 (pc' := 2) (lv' := [some (.ref a0), some (.int a1), some (.int (0 : Int32)), none, none, none]) (st' := []) (h' := h) rfl ?_
  refine zm_findLooks_l2_ok sc d hd zo_F a0 a1 (0 : Int32) h _ _ hf
