/-! methods as functions, and their walks; printed by wip/whole/decomp.py -/
set_option maxRecDepth 4000 in
def zx_best (sc : zX) (a0 : Nat) (a1 : Int32) (h : zH) : Option (Int32 × zH) := zo_b (zo_gR h 9 a0 4) (fun v1 => zo_b (zo_gR h 9 a0 11) (fun v3 => zo_v h v1 8 (zx_Ways_learn sc v1 v3 h) (fun w6 h5 => if a1 = (-1 : Int32) then (zo_b (zo_gR h5 9 a0 4) (fun v10 => zo_b (zo_gI h5 8 v10 1) (fun v12 => some (v12, h5)))) else (zo_b (zo_gR h5 9 a0 11) (fun v14 => zo_v h5 v14 0 (zx_Army_hasPost sc v14 a1 h5) (fun v17 h16 => if v17 = 0 then (some ((-2 : Int32), h16)) else (zo_b (zo_gR h16 9 a0 4) (fun v21 => zo_b (zo_gR h16 8 v21 3) (fun v23 => zo_c (zx_at sc v23 a1 h16) (fun v26 h25 => some (v26, h25)))))))))))
set_option maxRecDepth 4000 in
theorem zx_best_ok (sc : zX) (d : Nat) (hd : 71 ≤ d) {a0 : Nat} {a1 : Int32} {h : zH} {ro_ : Int32} {ho_ : zH} (hf : zx_best sc a0 a1 h = some (ro_, ho_)) : zq_wm sc d 98 [.ref a0, .int a1] h (some (.int ro_), ho_) := by
  unfold zx_best at hf
  obtain ⟨d, rfl⟩ : ∃ d', d = d' + 1 := ⟨d - 1, by omega⟩
  have hd : 70 ≤ d := by omega
  show zq_wp sc (d + 1) 98 0 [some (.ref a0), some (.int a1)] [] h _
  refine zq_wg 1 (pc' := 1) (lv' := [some (.ref a0), some (.int a1)]) (st' := [.ref a0]) (h' := h) rfl ?_
  obtain ⟨v1, e2, hf⟩ := zo_b_s hf
  refine zr_gR rfl rfl (by decide) rfl e2 ?_
  refine zq_wg 1 (pc' := 5) (lv' := [some (.ref a0), some (.int a1)]) (st' := [.ref a0, .ref v1]) (h' := h) rfl ?_
  obtain ⟨v3, e4, hf⟩ := zo_b_s hf
  refine zr_gR rfl rfl (by decide) rfl e4 ?_
  obtain ⟨e8, w6, h5, e7, hf⟩ := zo_v_s hf
  refine zr_cv zq_m99 [.ref v3] [] rfl rfl rfl rfl rfl (Nat.le_of_ble_eq_true rfl) (Nat.le_of_ble_eq_true rfl) e8 (zx_Ways_learn_ok sc d (by omega) e7) ?_
  refine zq_wg 0 (pc' := 11) (lv' := [some (.ref a0), some (.int a1)]) (st' := []) (h' := h5) rfl ?_
  refine zq_wg 2 (pc' := 13) (lv' := [some (.ref a0), some (.int a1)]) (st' := [.int (-1 : Int32), .int a1]) (h' := h5) rfl ?_
  refine zr_if (a1 = (-1 : Int32)) 16 24 (st' := []) rfl rfl (fun b9 => ?_) (fun b9 => ?_)
  · have hf := zo_t hf b9
    refine zq_wg 1 (pc' := 17) (lv' := [some (.ref a0), some (.int a1)]) (st' := [.ref a0]) (h' := h5) rfl ?_
    obtain ⟨v10, e11, hf⟩ := zo_b_s hf
    refine zr_gR rfl rfl (by decide) rfl e11 ?_
    obtain ⟨v12, e13, hf⟩ := zo_b_s hf
    refine zr_gI rfl rfl (by decide) rfl e13 ?_
    exact zr_ri rfl rfl rfl hf
  · have hf := zo_f hf b9
    refine zq_wg 1 (pc' := 25) (lv' := [some (.ref a0), some (.int a1)]) (st' := [.ref a0]) (h' := h5) rfl ?_
    obtain ⟨v14, e15, hf⟩ := zo_b_s hf
    refine zr_gR rfl rfl (by decide) rfl e15 ?_
    refine zq_wg 1 (pc' := 29) (lv' := [some (.ref a0), some (.int a1)]) (st' := [.int a1, .ref v14]) (h' := h5) rfl ?_
    obtain ⟨e19, v17, h16, e18, hf⟩ := zo_v_s hf
    refine zr_cv zq_m66 [.int a1] [] rfl rfl rfl rfl rfl (Nat.le_of_ble_eq_true rfl) (Nat.le_of_ble_eq_true rfl) e19 (zx_Army_hasPost_ok sc d (by omega) e18) ?_
    refine zq_wg 0 (pc' := 32) (lv' := [some (.ref a0), some (.int a1)]) (st' := [.int v17]) (h' := h16) rfl ?_
    refine zr_if (v17 = 0) 49 35 (st' := []) rfl rfl (fun b20 => ?_) (fun b20 => ?_)
    · have hf := zo_t hf b20
      refine zq_wg 1 (pc' := 51) (lv' := [some (.ref a0), some (.int a1)]) (st' := [.int (-2 : Int32)]) (h' := h16) rfl ?_
      exact zr_ri rfl rfl rfl hf
    · have hf := zo_f hf b20
      refine zq_wg 1 (pc' := 36) (lv' := [some (.ref a0), some (.int a1)]) (st' := [.ref a0]) (h' := h16) rfl ?_
      obtain ⟨v21, e22, hf⟩ := zo_b_s hf
      refine zr_gR rfl rfl (by decide) rfl e22 ?_
      obtain ⟨v23, e24, hf⟩ := zo_b_s hf
      refine zr_gR rfl rfl (by decide) rfl e24 ?_
      refine zq_wg 1 (pc' := 43) (lv' := [some (.ref a0), some (.int a1)]) (st' := [.int a1, .ref v23]) (h' := h16) rfl ?_
      obtain ⟨v26, h25, e27, hf⟩ := zo_c_s hf
      refine zr_cs zq_m12 [.ref v23, .int a1] [] rfl rfl (by decide) rfl rfl rfl (Nat.le_of_ble_eq_true rfl) (Nat.le_of_ble_eq_true rfl) (zx_at_ok sc d (by omega) e27) ?_
      refine zq_wg 0 (pc' := 46) (lv' := [some (.ref a0), some (.int a1)]) (st' := [.int v26]) (h' := h25) rfl ?_
      refine zq_wg 1 (pc' := 51) (lv' := [some (.ref a0), some (.int a1)]) (st' := [.int v26]) (h' := h25) rfl ?_
      exact zr_ri rfl rfl rfl hf
set_option maxRecDepth 4000 in
def zx_Ways_thousandths (sc : zX) (a0 : Nat) (a1 : Int64) (h : zH) : Option (Int32 × zH) := zo_b (zo_gI h 8 a0 5) (fun v1 => if v1 ≤ 0 then (some ((0 : Int32), h)) else (zo_b (zo_gI h 8 a0 5) (fun v4 => zo_b (zo_dvL (a1 * (1000 : Int64)) v4.toInt64) (fun v6 => some (v6.toInt32, h)))))
set_option maxRecDepth 4000 in
theorem zx_Ways_thousandths_ok (sc : zX) (d : Nat) (hd : 0 ≤ d) {a0 : Nat} {a1 : Int64} {h : zH} {ro_ : Int32} {ho_ : zH} (hf : zx_Ways_thousandths sc a0 a1 h = some (ro_, ho_)) : zq_wm sc d 103 [.ref a0, .long a1] h (some (.int ro_), ho_) := by
  unfold zx_Ways_thousandths at hf
  show zq_wp sc d 103 0 [some (.ref a0), some (.long a1), none] [] h _
  refine zq_wg 1 (pc' := 1) (lv' := [some (.ref a0), some (.long a1), none]) (st' := [.ref a0]) (h' := h) rfl ?_
  obtain ⟨v1, e2, hf⟩ := zo_b_s hf
  refine zr_gI rfl rfl (by decide) rfl e2 ?_
  refine zr_if (v1 ≤ 0) 22 7 (st' := []) rfl rfl (fun b3 => ?_) (fun b3 => ?_)
  · have hf := zo_t hf b3
    refine zq_wg 1 (pc' := 23) (lv' := [some (.ref a0), some (.long a1), none]) (st' := [.int (0 : Int32)]) (h' := h) rfl ?_
    exact zr_ri rfl rfl rfl hf
  · have hf := zo_f hf b3
    refine zq_wg 4 (pc' := 13) (lv' := [some (.ref a0), some (.long a1), none]) (st' := [.ref a0, .long (a1 * (1000 : Int64))]) (h' := h) rfl ?_
    obtain ⟨v4, e5, hf⟩ := zo_b_s hf
    refine zr_gI rfl rfl (by decide) rfl e5 ?_
    refine zq_wg 1 (pc' := 17) (lv' := [some (.ref a0), some (.long a1), none]) (st' := [.long v4.toInt64, .long (a1 * (1000 : Int64))]) (h' := h) rfl ?_
    obtain ⟨v6, e7, hf⟩ := zo_b_s hf
    refine zr_ldiv rfl e7 ?_
    refine zq_wg 2 (pc' := 23) (lv' := [some (.ref a0), some (.long a1), none]) (st' := [.int v6.toInt32]) (h' := h) rfl ?_
    exact zr_ri rfl rfl rfl hf
set_option maxRecDepth 4000 in
def zx_mean (sc : zX) (a0 : Nat) (h : zH) : Option (Int32 × zH) := zo_b (zo_gR h 9 a0 4) (fun v1 => zo_b (zo_gR h 9 a0 11) (fun v3 => zo_v h v1 8 (zx_Ways_learn sc v1 v3 h) (fun w6 h5 => zo_b (zo_gR h5 9 a0 4) (fun v9 => zo_b (zo_gR h5 9 a0 4) (fun v11 => zo_b (zo_gL h5 8 v11 2) (fun v13 => zo_v h5 v9 8 (zx_Ways_thousandths sc v9 v13 h5) (fun v16 h15 => some (v16, h15))))))))
set_option maxRecDepth 4000 in
theorem zx_mean_ok (sc : zX) (d : Nat) (hd : 71 ≤ d) {a0 : Nat} {h : zH} {ro_ : Int32} {ho_ : zH} (hf : zx_mean sc a0 h = some (ro_, ho_)) : zq_wm sc d 102 [.ref a0] h (some (.int ro_), ho_) := by
  unfold zx_mean at hf
  obtain ⟨d, rfl⟩ : ∃ d', d = d' + 1 := ⟨d - 1, by omega⟩
  have hd : 70 ≤ d := by omega
  show zq_wp sc (d + 1) 102 0 [some (.ref a0)] [] h _
  refine zq_wg 1 (pc' := 1) (lv' := [some (.ref a0)]) (st' := [.ref a0]) (h' := h) rfl ?_
  obtain ⟨v1, e2, hf⟩ := zo_b_s hf
  refine zr_gR rfl rfl (by decide) rfl e2 ?_
  refine zq_wg 1 (pc' := 5) (lv' := [some (.ref a0)]) (st' := [.ref a0, .ref v1]) (h' := h) rfl ?_
  obtain ⟨v3, e4, hf⟩ := zo_b_s hf
  refine zr_gR rfl rfl (by decide) rfl e4 ?_
  obtain ⟨e8, w6, h5, e7, hf⟩ := zo_v_s hf
  refine zr_cv zq_m99 [.ref v3] [] rfl rfl rfl rfl rfl (Nat.le_of_ble_eq_true rfl) (Nat.le_of_ble_eq_true rfl) e8 (zx_Ways_learn_ok sc d (by omega) e7) ?_
  refine zq_wg 0 (pc' := 11) (lv' := [some (.ref a0)]) (st' := []) (h' := h5) rfl ?_
  refine zq_wg 1 (pc' := 12) (lv' := [some (.ref a0)]) (st' := [.ref a0]) (h' := h5) rfl ?_
  obtain ⟨v9, e10, hf⟩ := zo_b_s hf
  refine zr_gR rfl rfl (by decide) rfl e10 ?_
  refine zq_wg 1 (pc' := 16) (lv' := [some (.ref a0)]) (st' := [.ref a0, .ref v9]) (h' := h5) rfl ?_
  obtain ⟨v11, e12, hf⟩ := zo_b_s hf
  refine zr_gR rfl rfl (by decide) rfl e12 ?_
  obtain ⟨v13, e14, hf⟩ := zo_b_s hf
  refine zr_gL rfl rfl (by decide) rfl e14 ?_
  obtain ⟨e18, v16, h15, e17, hf⟩ := zo_v_s hf
  refine zr_cv zq_m103 [.long v13] [] rfl rfl rfl rfl rfl (Nat.le_of_ble_eq_true rfl) (Nat.le_of_ble_eq_true rfl) e18 (zx_Ways_thousandths_ok sc d (by omega) e17) ?_
  refine zq_wg 0 (pc' := 25) (lv' := [some (.ref a0)]) (st' := [.int v16]) (h' := h15) rfl ?_
  exact zr_ri rfl rfl rfl hf
set_option maxRecDepth 4000 in
def zx_loss (sc : zX) (a0 : Nat) (h : zH) : Option (Int32 × zH) := zo_b (zo_gR h 9 a0 4) (fun v1 => zo_b (zo_gR h 9 a0 11) (fun v3 => zo_v h v1 8 (zx_Ways_learn sc v1 v3 h) (fun w6 h5 => zo_b (zo_gR h5 9 a0 4) (fun v9 => zo_b (zo_gI h5 8 v9 1) (fun v11 => zo_b (zo_gR h5 9 a0 4) (fun v13 => zo_b (zo_gR h5 9 a0 4) (fun v15 => zo_b (zo_gL h5 8 v15 2) (fun v17 => zo_v h5 v13 8 (zx_Ways_thousandths sc v13 v17 h5) (fun v20 h19 => some (((v11 * (1000 : Int32)) - v20), h19))))))))))
set_option maxRecDepth 4000 in
theorem zx_loss_ok (sc : zX) (d : Nat) (hd : 71 ≤ d) {a0 : Nat} {h : zH} {ro_ : Int32} {ho_ : zH} (hf : zx_loss sc a0 h = some (ro_, ho_)) : zq_wm sc d 104 [.ref a0] h (some (.int ro_), ho_) := by
  unfold zx_loss at hf
  obtain ⟨d, rfl⟩ : ∃ d', d = d' + 1 := ⟨d - 1, by omega⟩
  have hd : 70 ≤ d := by omega
  show zq_wp sc (d + 1) 104 0 [some (.ref a0)] [] h _
  refine zq_wg 1 (pc' := 1) (lv' := [some (.ref a0)]) (st' := [.ref a0]) (h' := h) rfl ?_
  obtain ⟨v1, e2, hf⟩ := zo_b_s hf
  refine zr_gR rfl rfl (by decide) rfl e2 ?_
  refine zq_wg 1 (pc' := 5) (lv' := [some (.ref a0)]) (st' := [.ref a0, .ref v1]) (h' := h) rfl ?_
  obtain ⟨v3, e4, hf⟩ := zo_b_s hf
  refine zr_gR rfl rfl (by decide) rfl e4 ?_
  obtain ⟨e8, w6, h5, e7, hf⟩ := zo_v_s hf
  refine zr_cv zq_m99 [.ref v3] [] rfl rfl rfl rfl rfl (Nat.le_of_ble_eq_true rfl) (Nat.le_of_ble_eq_true rfl) e8 (zx_Ways_learn_ok sc d (by omega) e7) ?_
  refine zq_wg 0 (pc' := 11) (lv' := [some (.ref a0)]) (st' := []) (h' := h5) rfl ?_
  refine zq_wg 1 (pc' := 12) (lv' := [some (.ref a0)]) (st' := [.ref a0]) (h' := h5) rfl ?_
  obtain ⟨v9, e10, hf⟩ := zo_b_s hf
  refine zr_gR rfl rfl (by decide) rfl e10 ?_
  obtain ⟨v11, e12, hf⟩ := zo_b_s hf
  refine zr_gI rfl rfl (by decide) rfl e12 ?_
  refine zq_wg 3 (pc' := 23) (lv' := [some (.ref a0)]) (st' := [.ref a0, .int (v11 * (1000 : Int32))]) (h' := h5) rfl ?_
  obtain ⟨v13, e14, hf⟩ := zo_b_s hf
  refine zr_gR rfl rfl (by decide) rfl e14 ?_
  refine zq_wg 1 (pc' := 27) (lv' := [some (.ref a0)]) (st' := [.ref a0, .ref v13, .int (v11 * (1000 : Int32))]) (h' := h5) rfl ?_
  obtain ⟨v15, e16, hf⟩ := zo_b_s hf
  refine zr_gR rfl rfl (by decide) rfl e16 ?_
  obtain ⟨v17, e18, hf⟩ := zo_b_s hf
  refine zr_gL rfl rfl (by decide) rfl e18 ?_
  obtain ⟨e22, v20, h19, e21, hf⟩ := zo_v_s hf
  refine zr_cv zq_m103 [.long v17] [.int (v11 * (1000 : Int32))] rfl rfl rfl rfl rfl (Nat.le_of_ble_eq_true rfl) (Nat.le_of_ble_eq_true rfl) e22 (zx_Ways_thousandths_ok sc d (by omega) e21) ?_
  refine zq_wg 0 (pc' := 36) (lv' := [some (.ref a0)]) (st' := [.int v20, .int (v11 * (1000 : Int32))]) (h' := h19) rfl ?_
  refine zq_wg 1 (pc' := 37) (lv' := [some (.ref a0)]) (st' := [.int ((v11 * (1000 : Int32)) - v20)]) (h' := h19) rfl ?_
  exact zr_ri rfl rfl rfl hf
set_option maxRecDepth 4000 in
def zx_power_l5 (sc : zX) : Nat → Int32 → Int32 → Int64 → Int32 → zH → Option (Int64 × zH)
  | 0, _, _, _, _, _ => none
  | n + 1, y1, y2, y3, y4, h5 => if y2 ≤ y4 then (some (y3, h5)) else (zx_power_l5 sc n y1 y2 (y3 * y1.toInt64) (y4 + (1 : Int32)) h5 )
set_option maxRecDepth 4000 in
def zx_power (sc : zX) (a0 : Int32) (a1 : Int32) (h : zH) : Option (Int64 × zH) := zx_power_l5 sc zo_F a0 a1 (1 : Int64) (0 : Int32) h 
set_option maxRecDepth 4000 in
theorem zx_power_l5_ok (sc : zX) (d : Nat) : ∀ (n : Nat) (y1 : Int32) (y2 : Int32) (y3 : Int64) (y4 : Int32) (h5 : zH) (ro_ : Int64) (ho_ : zH),  zx_power_l5 sc n y1 y2 y3 y4 h5  = some (ro_, ho_) → zq_wp sc d 107 5 [some (.int y1), some (.int y2), some (.long y3), none, some (.int y4)] [] h5 (some (.long ro_), ho_) := by
  intro n
  induction n with
  | zero => intro y1 y2 y3 y4 h5 ro_ ho_ hf; cases hf
  | succ n ih =>
    intro y1 y2 y3 y4 h5 ro_ ho_ hf
    refine zq_wg 2 (pc' := 8) (lv' := [some (.int y1), some (.int y2), some (.long y3), none, some (.int y4)]) (st' := [.int y2, .int y4]) (h' := h5) rfl ?_
    refine zr_if (y2 ≤ y4) 22 11 (st' := []) rfl rfl (fun b6 => ?_) (fun b6 => ?_)
    · have hf := zo_t hf b6
      refine zq_wg 1 (pc' := 23) (lv' := [some (.int y1), some (.int y2), some (.long y3), none, some (.int y4)]) (st' := [.long y3]) (h' := h5) rfl ?_
      exact zr_rl rfl rfl hf
    · have hf := zo_f hf b6
      refine zq_wg 7 (pc' := 5) (lv' := [some (.int y1), some (.int y2), some (.long (y3 * y1.toInt64)), none, some (.int (y4 + (1 : Int32)))]) (st' := []) (h' := h5) rfl ?_
      exact ih y1 y2 (y3 * y1.toInt64) (y4 + (1 : Int32)) h5 _ _ hf
set_option maxRecDepth 4000 in
theorem zx_power_ok (sc : zX) (d : Nat) (hd : 0 ≤ d) {a0 : Int32} {a1 : Int32} {h : zH} {ro_ : Int64} {ho_ : zH} (hf : zx_power sc a0 a1 h = some (ro_, ho_)) : zq_wm sc d 107 [.int a0, .int a1] h (some (.long ro_), ho_) := by
  unfold zx_power at hf
  show zq_wp sc d 107 0 [some (.int a0), some (.int a1), none, none, none] [] h _
  refine zq_wg 4 (pc' := 5) (lv' := [some (.int a0), some (.int a1), some (.long (1 : Int64)), none, some (.int (0 : Int32))]) (st' := []) (h' := h) rfl ?_
  refine zx_power_l5_ok sc d zo_F a0 a1 (1 : Int64) (0 : Int32) h _ _ hf
set_option maxRecDepth 4000 in
def zx_Ways_spell_l7 (sc : zX) : Nat → Nat → Int32 → Int32 → zH → Option (Unit × zH)
  | 0, _, _, _, _ => none
  | n + 1, y1, y2, y3, h4 => if y3 < 0 then (some ((), h4)) else (zo_b (zo_gR h4 8 y1 10) (fun v6 => zo_b (zo_rm y2 (3 : Int32)) (fun v8 => zo_c (zx_put sc v6 y3 v8 h4) (fun w11 h10 => zo_b (zo_dv y2 (3 : Int32)) (fun v13 => zx_Ways_spell_l7 sc n y1 v13 (y3 + (-1 : Int32)) h10 )))))
set_option maxRecDepth 4000 in
def zx_Ways_spell (sc : zX) (a0 : Nat) (a1 : Int32) (a2 : Int32) (h : zH) : Option (Unit × zH) := zx_Ways_spell_l7 sc zo_F a0 a1 (a2 - (1 : Int32)) h 
set_option maxRecDepth 4000 in
theorem zx_Ways_spell_l7_ok (sc : zX) (d : Nat) (hd : 0 ≤ d) : ∀ (n : Nat) (y1 : Nat) (y2 : Int32) (y3 : Int32) (h4 : zH) (ro_ : Unit) (ho_ : zH),  zx_Ways_spell_l7 sc n y1 y2 y3 h4  = some (ro_, ho_) → zq_wp sc (d + 1) 108 7 [some (.ref y1), none, none, some (.int y2), some (.int y3)] [] h4 (none, ho_) := by
  intro n
  induction n with
  | zero => intro y1 y2 y3 h4 ro_ ho_ hf; cases hf
  | succ n ih =>
    intro y1 y2 y3 h4 ro_ ho_ hf
    refine zq_wg 1 (pc' := 9) (lv' := [some (.ref y1), none, none, some (.int y2), some (.int y3)]) (st' := [.int y3]) (h' := h4) rfl ?_
    refine zr_if (y3 < 0) 34 12 (st' := []) rfl rfl (fun b5 => ?_) (fun b5 => ?_)
    · have hf := zo_t hf b5
      exact zr_rv rfl rfl hf
    · have hf := zo_f hf b5
      refine zq_wg 1 (pc' := 13) (lv' := [some (.ref y1), none, none, some (.int y2), some (.int y3)]) (st' := [.ref y1]) (h' := h4) rfl ?_
      obtain ⟨v6, e7, hf⟩ := zo_b_s hf
      refine zr_gR rfl rfl (by decide) rfl e7 ?_
      refine zq_wg 3 (pc' := 20) (lv' := [some (.ref y1), none, none, some (.int y2), some (.int y3)]) (st' := [.int (3 : Int32), .int y2, .int y3, .ref v6]) (h' := h4) rfl ?_
      obtain ⟨v8, e9, hf⟩ := zo_b_s hf
      refine zr_irem rfl e9 ?_
      obtain ⟨w11, h10, e12, hf⟩ := zo_c_s hf
      refine zr_cs zq_m11 [.ref v6, .int y3, .int v8] [] rfl rfl (by decide) rfl rfl rfl (Nat.le_of_ble_eq_true rfl) (Nat.le_of_ble_eq_true rfl) (zx_put_ok sc d (by omega) e12) ?_
      refine zq_wg 0 (pc' := 24) (lv' := [some (.ref y1), none, none, some (.int y2), some (.int y3)]) (st' := []) (h' := h10) rfl ?_
      refine zq_wg 2 (pc' := 26) (lv' := [some (.ref y1), none, none, some (.int y2), some (.int y3)]) (st' := [.int (3 : Int32), .int y2]) (h' := h10) rfl ?_
      obtain ⟨v13, e14, hf⟩ := zo_b_s hf
      refine zr_idiv rfl e14 ?_
      refine zq_wg 3 (pc' := 7) (lv' := [some (.ref y1), none, none, some (.int v13), some (.int (y3 + (-1 : Int32)))]) (st' := []) (h' := h10) rfl ?_
      exact ih y1 v13 (y3 + (-1 : Int32)) h10 _ _ hf
set_option maxRecDepth 4000 in
theorem zx_Ways_spell_ok (sc : zX) (d : Nat) (hd : 1 ≤ d) {a0 : Nat} {a1 : Int32} {a2 : Int32} {h : zH} {ro_ : Unit} {ho_ : zH} (hf : zx_Ways_spell sc a0 a1 a2 h = some (ro_, ho_)) : zq_wm sc d 108 [.ref a0, .int a1, .int a2] h (none, ho_) := by
  unfold zx_Ways_spell at hf
  obtain ⟨d, rfl⟩ : ∃ d', d = d' + 1 := ⟨d - 1, by omega⟩
  have hd : 0 ≤ d := by omega
  show zq_wp sc (d + 1) 108 0 [some (.ref a0), some (.int a1), some (.int a2), none, none] [] h _
  refine zq_wg 6 (pc' := 7) (lv' := [some (.ref a0), some (.int a1), some (.int a2), some (.int a1), some (.int (a2 - (1 : Int32)))]) (st' := []) (h' := h) rfl ?_
  refine zq_fg [some (.ref a0), none, none, some (.int a1), some (.int (a2 - (1 : Int32)))] (zq_lvle_s (zq_lvle_n (zq_lvle_n (zq_lvle_s (zq_lvle_s zq_lvle_nil))))) ?_
  refine zx_Ways_spell_l7_ok sc d hd zo_F a0 a1 (a2 - (1 : Int32)) h _ _ hf
set_option maxRecDepth 4000 in
def zx_Ways_moveBy (sc : zX) (a0 : Int32) (a1 : Int32) (h : zH) : Option (Int32 × zH) := zo_l (fun (x1 : Int32) (h2 : zH) => zo_b (zo_rm x1 (7 : Int32)) (fun v3 => some ((v3 - (3 : Int32)), h2))) (fun j24_2 => if a1 = 0 then (zo_b (zo_dv a0 (49 : Int32)) (fun v6 => j24_2 v6 h)) else (if a1 = (1 : Int32) then (zo_b (zo_dv a0 (7 : Int32)) (fun v9 => j24_2 v9 h)) else (j24_2 a0 h)))
set_option maxRecDepth 4000 in
theorem zx_Ways_moveBy_ok (sc : zX) (d : Nat) (hd : 0 ≤ d) {a0 : Int32} {a1 : Int32} {h : zH} {ro_ : Int32} {ho_ : zH} (hf : zx_Ways_moveBy sc a0 a1 h = some (ro_, ho_)) : zq_wm sc d 110 [.int a0, .int a1] h (some (.int ro_), ho_) := by
  unfold zx_Ways_moveBy at hf
  show zq_wp sc d 110 0 [some (.int a0), some (.int a1), none] [] h _
  refine zq_wg 1 (pc' := 1) (lv' := [some (.int a0), some (.int a1), none]) (st' := [.int a1]) (h' := h) rfl ?_
  obtain ⟨j24_2, hjj24_2, hf⟩ := zo_lj hf
  have kj24_2 : ∀ (x1 : Int32) (h2 : zH), j24_2 x1 h2 = some (ro_, ho_) → zq_wp sc d 110 24 [none, none, none] [.int x1] h2 (some (.int ro_), ho_) := by
    intro x1 h2 hf
    rw [hjj24_2] at hf
    refine zq_wg 3 (pc' := 28) (lv' := [none, none, some (.int x1)]) (st' := [.int (7 : Int32), .int x1]) (h' := h2) rfl ?_
    obtain ⟨v3, e4, hf⟩ := zo_b_s hf
    refine zr_irem rfl e4 ?_
    refine zq_wg 2 (pc' := 31) (lv' := [none, none, some (.int x1)]) (st' := [.int (v3 - (3 : Int32))]) (h' := h2) rfl ?_
    exact zr_ri rfl rfl rfl hf
  refine zr_if (a1 = 0) 4 11 (st' := []) rfl rfl (fun b5 => ?_) (fun b5 => ?_)
  · have hf := zo_t hf b5
    refine zq_wg 2 (pc' := 7) (lv' := [some (.int a0), some (.int a1), none]) (st' := [.int (49 : Int32), .int a0]) (h' := h) rfl ?_
    obtain ⟨v6, e7, hf⟩ := zo_b_s hf
    refine zr_idiv rfl e7 ?_
    refine zq_wg 1 (pc' := 24) (lv' := [some (.int a0), some (.int a1), none]) (st' := [.int v6]) (h' := h) rfl ?_
    refine zq_fg [none, none, none] (zq_lvle_n (zq_lvle_n (zq_lvle_s zq_lvle_nil))) ?_
    exact kj24_2 v6 h hf
  · have hf := zo_f hf b5
    refine zq_wg 2 (pc' := 13) (lv' := [some (.int a0), some (.int a1), none]) (st' := [.int (1 : Int32), .int a1]) (h' := h) rfl ?_
    refine zr_if (a1 = (1 : Int32)) 16 23 (st' := []) rfl rfl (fun b8 => ?_) (fun b8 => ?_)
    · have hf := zo_t hf b8
      refine zq_wg 2 (pc' := 19) (lv' := [some (.int a0), some (.int a1), none]) (st' := [.int (7 : Int32), .int a0]) (h' := h) rfl ?_
      obtain ⟨v9, e10, hf⟩ := zo_b_s hf
      refine zr_idiv rfl e10 ?_
      refine zq_wg 1 (pc' := 24) (lv' := [some (.int a0), some (.int a1), none]) (st' := [.int v9]) (h' := h) rfl ?_
      refine zq_fg [none, none, none] (zq_lvle_n (zq_lvle_n (zq_lvle_s zq_lvle_nil))) ?_
      exact kj24_2 v9 h hf
    · have hf := zo_f hf b8
      refine zq_wg 1 (pc' := 24) (lv' := [some (.int a0), some (.int a1), none]) (st' := [.int a0]) (h' := h) rfl ?_
      refine zq_fg [none, none, none] (zq_lvle_n (zq_lvle_n (zq_lvle_s zq_lvle_nil))) ?_
      exact kj24_2 a0 h hf
set_option maxRecDepth 4000 in
def zx_Ways_reached_l32 (sc : zX) : Nat → Nat → Nat → Int32 → Int32 → Int64 → Int32 → Int32 → Int32 → Int32 → zH → (Nat → Nat → Int32 → Int32 → Int64 → Int32 → Int32 → Int32 → zH → Option (Int64 × zH)) → Option (Int64 × zH)
  | 0, _, _, _, _, _, _, _, _, _, _, _ => none
  | n + 1, y16, y17, y18, y19, y20, y21, y22, y23, y24, h25, k66 => if y19 ≤ y24 then (k66 y16 y17 y18 y19 y20 y21 y22 y23 h25) else (zo_b (zo_gR h25 8 y16 10) (fun v27 => zo_c (zx_at sc v27 y24 h25) (fun v30 h29 => zo_c (zx_Ways_moveBy sc y22 v30 h29) (fun v33 h32 => zo_v h32 y17 0 (zx_Army_after sc y17 y23 v33 h32) (fun v36 h35 => zx_Ways_reached_l32 sc n y16 y17 y18 y19 y20 y21 y22 v36 (y24 + (1 : Int32)) h35 k66)))))
set_option maxRecDepth 4000 in
def zx_Ways_reached_l6 (sc : zX) : Nat → Nat → Nat → Int32 → Int32 → Int64 → Int32 → zH → Option (Int64 × zH)
  | 0, _, _, _, _, _, _, _ => none
  | n + 1, y1, y2, y3, y4, y5, y6, h7 => zo_b (zo_gI h7 8 y1 6) (fun v8 => if v8 ≤ y6 then (some (y5, h7)) else (zo_b (zo_gR h7 8 y1 8) (fun v11 => zo_c (zx_at sc v11 y6 h7) (fun v14 h13 => zx_Ways_reached_l32 sc zo_F y1 y2 y3 y4 y5 y6 v14 y3 (0 : Int32) h13 (fun (x39 : Nat) (x40 : Nat) (x41 : Int32) (x42 : Int32) (x43 : Int64) (x44 : Int32) (x45 : Int32) (x46 : Int32) (h47 : zH) => zo_b (zo_gR h47 8 x39 9) (fun v48 => zo_c (zx_at sc v48 x45 h47) (fun v51 h50 => zx_Ways_reached_l6 sc n x39 x40 x41 x42 (x43 + (x46.toInt64 * v51.toInt64)) (x44 + (1 : Int32)) h50 )))))))
set_option maxRecDepth 4000 in
def zx_Ways_reached (sc : zX) (a0 : Nat) (a1 : Nat) (a2 : Int32) (a3 : Int32) (h : zH) : Option (Int64 × zH) := zx_Ways_reached_l6 sc zo_F a0 a1 a2 a3 (0 : Int64) (0 : Int32) h 
set_option maxRecDepth 4000 in
theorem zx_Ways_reached_l32_ok (sc : zX) (d : Nat) (hd : 2 ≤ d) : ∀ (n : Nat) (y16 : Nat) (y17 : Nat) (y18 : Int32) (y19 : Int32) (y20 : Int64) (y21 : Int32) (y22 : Int32) (y23 : Int32) (y24 : Int32) (h25 : zH) (k66 : Nat → Nat → Int32 → Int32 → Int64 → Int32 → Int32 → Int32 → zH → Option (Int64 × zH)) (ro_ : Int64) (ho_ : zH), (∀ (z0 : Nat) (z1 : Nat) (z2 : Int32) (z3 : Int32) (z4 : Int64) (z5 : Int32) (z6 : Int32) (z7 : Int32) (hz : zH), k66 z0 z1 z2 z3 z4 z5 z6 z7 hz = some (ro_, ho_) → zq_wp sc (d + 1) 109 66 [some (.ref z0), some (.ref z1), some (.int z2), some (.int z3), some (.long z4), none, some (.int z5), some (.int z6), some (.int z7), none] [] hz (some (.long ro_), ho_)) → zx_Ways_reached_l32 sc n y16 y17 y18 y19 y20 y21 y22 y23 y24 h25 k66 = some (ro_, ho_) → zq_wp sc (d + 1) 109 32 [some (.ref y16), some (.ref y17), some (.int y18), some (.int y19), some (.long y20), none, some (.int y21), some (.int y22), some (.int y23), some (.int y24)] [] h25 (some (.long ro_), ho_) := by
  intro n
  induction n with
  | zero => intro y16 y17 y18 y19 y20 y21 y22 y23 y24 h25 k66 ro_ ho_ hk66 hf; cases hf
  | succ n ih =>
    intro y16 y17 y18 y19 y20 y21 y22 y23 y24 h25 k66 ro_ ho_ hk66 hf
    refine zq_wg 2 (pc' := 35) (lv' := [some (.ref y16), some (.ref y17), some (.int y18), some (.int y19), some (.long y20), none, some (.int y21), some (.int y22), some (.int y23), some (.int y24)]) (st' := [.int y19, .int y24]) (h' := h25) rfl ?_
    refine zr_if (y19 ≤ y24) 66 38 (st' := []) rfl rfl (fun b26 => ?_) (fun b26 => ?_)
    · have hf := zo_t hf b26
      refine zq_fg [some (.ref y16), some (.ref y17), some (.int y18), some (.int y19), some (.long y20), none, some (.int y21), some (.int y22), some (.int y23), none] (zq_lvle_s (zq_lvle_s (zq_lvle_s (zq_lvle_s (zq_lvle_s (zq_lvle_s (zq_lvle_s (zq_lvle_s (zq_lvle_s (zq_lvle_n zq_lvle_nil)))))))))) ?_
      exact hk66 y16 y17 y18 y19 y20 y21 y22 y23 h25 hf
    · have hf := zo_f hf b26
      refine zq_wg 4 (pc' := 44) (lv' := [some (.ref y16), some (.ref y17), some (.int y18), some (.int y19), some (.long y20), none, some (.int y21), some (.int y22), some (.int y23), some (.int y24)]) (st' := [.ref y16, .int y22, .int y23, .ref y17]) (h' := h25) rfl ?_
      obtain ⟨v27, e28, hf⟩ := zo_b_s hf
      refine zr_gR rfl rfl (by decide) rfl e28 ?_
      refine zq_wg 1 (pc' := 49) (lv' := [some (.ref y16), some (.ref y17), some (.int y18), some (.int y19), some (.long y20), none, some (.int y21), some (.int y22), some (.int y23), some (.int y24)]) (st' := [.int y24, .ref v27, .int y22, .int y23, .ref y17]) (h' := h25) rfl ?_
      obtain ⟨v30, h29, e31, hf⟩ := zo_c_s hf
      refine zr_cs zq_m12 [.ref v27, .int y24] [.int y22, .int y23, .ref y17] rfl rfl (by decide) rfl rfl rfl (Nat.le_of_ble_eq_true rfl) (Nat.le_of_ble_eq_true rfl) (zx_at_ok sc d (by omega) e31) ?_
      refine zq_wg 0 (pc' := 52) (lv' := [some (.ref y16), some (.ref y17), some (.int y18), some (.int y19), some (.long y20), none, some (.int y21), some (.int y22), some (.int y23), some (.int y24)]) (st' := [.int v30, .int y22, .int y23, .ref y17]) (h' := h29) rfl ?_
      obtain ⟨v33, h32, e34, hf⟩ := zo_c_s hf
      refine zr_cs zq_m110 [.int y22, .int v30] [.int y23, .ref y17] rfl rfl (by decide) rfl rfl rfl (Nat.le_of_ble_eq_true rfl) (Nat.le_of_ble_eq_true rfl) (zx_Ways_moveBy_ok sc d (by omega) e34) ?_
      refine zq_wg 0 (pc' := 55) (lv' := [some (.ref y16), some (.ref y17), some (.int y18), some (.int y19), some (.long y20), none, some (.int y21), some (.int y22), some (.int y23), some (.int y24)]) (st' := [.int v33, .int y23, .ref y17]) (h' := h32) rfl ?_
      obtain ⟨e38, v36, h35, e37, hf⟩ := zo_v_s hf
      refine zr_cv zq_m92 [.int y23, .int v33] [] rfl rfl rfl rfl rfl (Nat.le_of_ble_eq_true rfl) (Nat.le_of_ble_eq_true rfl) e38 (zx_Army_after_ok sc d (by omega) e37) ?_
      refine zq_wg 0 (pc' := 58) (lv' := [some (.ref y16), some (.ref y17), some (.int y18), some (.int y19), some (.long y20), none, some (.int y21), some (.int y22), some (.int y23), some (.int y24)]) (st' := [.int v36]) (h' := h35) rfl ?_
      refine zq_wg 3 (pc' := 32) (lv' := [some (.ref y16), some (.ref y17), some (.int y18), some (.int y19), some (.long y20), none, some (.int y21), some (.int y22), some (.int v36), some (.int (y24 + (1 : Int32)))]) (st' := []) (h' := h35) rfl ?_
      exact ih y16 y17 y18 y19 y20 y21 y22 v36 (y24 + (1 : Int32)) h35 _ _ _ hk66 hf
set_option maxRecDepth 4000 in
theorem zx_Ways_reached_l6_ok (sc : zX) (d : Nat) (hd : 2 ≤ d) : ∀ (n : Nat) (y1 : Nat) (y2 : Nat) (y3 : Int32) (y4 : Int32) (y5 : Int64) (y6 : Int32) (h7 : zH) (ro_ : Int64) (ho_ : zH),  zx_Ways_reached_l6 sc n y1 y2 y3 y4 y5 y6 h7  = some (ro_, ho_) → zq_wp sc (d + 1) 109 6 [some (.ref y1), some (.ref y2), some (.int y3), some (.int y4), some (.long y5), none, some (.int y6), none, none, none] [] h7 (some (.long ro_), ho_) := by
  intro n
  induction n with
  | zero => intro y1 y2 y3 y4 y5 y6 h7 ro_ ho_ hf; cases hf
  | succ n ih =>
    intro y1 y2 y3 y4 y5 y6 h7 ro_ ho_ hf
    refine zq_wg 2 (pc' := 9) (lv' := [some (.ref y1), some (.ref y2), some (.int y3), some (.int y4), some (.long y5), none, some (.int y6), none, none, none]) (st' := [.ref y1, .int y6]) (h' := h7) rfl ?_
    obtain ⟨v8, e9, hf⟩ := zo_b_s hf
    refine zr_gI rfl rfl (by decide) rfl e9 ?_
    refine zr_if (v8 ≤ y6) 91 15 (st' := []) rfl rfl (fun b10 => ?_) (fun b10 => ?_)
    · have hf := zo_t hf b10
      refine zq_wg 1 (pc' := 93) (lv' := [some (.ref y1), some (.ref y2), some (.int y3), some (.int y4), some (.long y5), none, some (.int y6), none, none, none]) (st' := [.long y5]) (h' := h7) rfl ?_
      exact zr_rl rfl rfl hf
    · have hf := zo_f hf b10
      refine zq_wg 1 (pc' := 16) (lv' := [some (.ref y1), some (.ref y2), some (.int y3), some (.int y4), some (.long y5), none, some (.int y6), none, none, none]) (st' := [.ref y1]) (h' := h7) rfl ?_
      obtain ⟨v11, e12, hf⟩ := zo_b_s hf
      refine zr_gR rfl rfl (by decide) rfl e12 ?_
      refine zq_wg 1 (pc' := 21) (lv' := [some (.ref y1), some (.ref y2), some (.int y3), some (.int y4), some (.long y5), none, some (.int y6), none, none, none]) (st' := [.int y6, .ref v11]) (h' := h7) rfl ?_
      obtain ⟨v14, h13, e15, hf⟩ := zo_c_s hf
      refine zr_cs zq_m12 [.ref v11, .int y6] [] rfl rfl (by decide) rfl rfl rfl (Nat.le_of_ble_eq_true rfl) (Nat.le_of_ble_eq_true rfl) (zx_at_ok sc d (by omega) e15) ?_
      refine zq_wg 0 (pc' := 24) (lv' := [some (.ref y1), some (.ref y2), some (.int y3), some (.int y4), some (.long y5), none, some (.int y6), none, none, none]) (st' := [.int v14]) (h' := h13) rfl ?_
      refine zq_wg 5 (pc' := 32) (lv' := [some (.ref y1), some (.ref y2), some (.int y3), some (.int y4), some (.long y5), none, some (.int y6), some (.int v14), some (.int y3), some (.int (0 : Int32))]) (st' := []) (h' := h13) rfl ?_
      refine zx_Ways_reached_l32_ok sc d hd zo_F y1 y2 y3 y4 y5 y6 v14 y3 (0 : Int32) h13 _ _ _ ?_ hf
      · intro x39 x40 x41 x42 x43 x44 x45 x46 h47 hf
        refine zq_wg 4 (pc' := 72) (lv' := [some (.ref x39), some (.ref x40), some (.int x41), some (.int x42), some (.long x43), none, some (.int x44), some (.int x45), some (.int x46), none]) (st' := [.ref x39, .long x46.toInt64, .long x43]) (h' := h47) rfl ?_
        obtain ⟨v48, e49, hf⟩ := zo_b_s hf
        refine zr_gR rfl rfl (by decide) rfl e49 ?_
        refine zq_wg 1 (pc' := 77) (lv' := [some (.ref x39), some (.ref x40), some (.int x41), some (.int x42), some (.long x43), none, some (.int x44), some (.int x45), some (.int x46), none]) (st' := [.int x45, .ref v48, .long x46.toInt64, .long x43]) (h' := h47) rfl ?_
        obtain ⟨v51, h50, e52, hf⟩ := zo_c_s hf
        refine zr_cs zq_m12 [.ref v48, .int x45] [.long x46.toInt64, .long x43] rfl rfl (by decide) rfl rfl rfl (Nat.le_of_ble_eq_true rfl) (Nat.le_of_ble_eq_true rfl) (zx_at_ok sc d (by omega) e52) ?_
        refine zq_wg 0 (pc' := 80) (lv' := [some (.ref x39), some (.ref x40), some (.int x41), some (.int x42), some (.long x43), none, some (.int x44), some (.int x45), some (.int x46), none]) (st' := [.int v51, .long x46.toInt64, .long x43]) (h' := h50) rfl ?_
        refine zq_wg 6 (pc' := 6) (lv' := [some (.ref x39), some (.ref x40), some (.int x41), some (.int x42), some (.long (x43 + (x46.toInt64 * v51.toInt64))), none, some (.int (x44 + (1 : Int32))), some (.int x45), some (.int x46), none]) (st' := []) (h' := h50) rfl ?_
        refine zq_fg [some (.ref x39), some (.ref x40), some (.int x41), some (.int x42), some (.long (x43 + (x46.toInt64 * v51.toInt64))), none, some (.int (x44 + (1 : Int32))), none, none, none] (zq_lvle_s (zq_lvle_s (zq_lvle_s (zq_lvle_s (zq_lvle_s (zq_lvle_s (zq_lvle_s (zq_lvle_n (zq_lvle_n (zq_lvle_s zq_lvle_nil)))))))))) ?_
        exact ih x39 x40 x41 x42 (x43 + (x46.toInt64 * v51.toInt64)) (x44 + (1 : Int32)) h50 _ _ hf
set_option maxRecDepth 4000 in
theorem zx_Ways_reached_ok (sc : zX) (d : Nat) (hd : 3 ≤ d) {a0 : Nat} {a1 : Nat} {a2 : Int32} {a3 : Int32} {h : zH} {ro_ : Int64} {ho_ : zH} (hf : zx_Ways_reached sc a0 a1 a2 a3 h = some (ro_, ho_)) : zq_wm sc d 109 [.ref a0, .ref a1, .int a2, .int a3] h (some (.long ro_), ho_) := by
  unfold zx_Ways_reached at hf
  obtain ⟨d, rfl⟩ : ∃ d', d = d' + 1 := ⟨d - 1, by omega⟩
  have hd : 2 ≤ d := by omega
  show zq_wp sc (d + 1) 109 0 [some (.ref a0), some (.ref a1), some (.int a2), some (.int a3), none, none, none, none, none, none] [] h _
  refine zq_wg 4 (pc' := 6) (lv' := [some (.ref a0), some (.ref a1), some (.int a2), some (.int a3), some (.long (0 : Int64)), none, some (.int (0 : Int32)), none, none, none]) (st' := []) (h' := h) rfl ?_
  refine zx_Ways_reached_l6_ok sc d hd zo_F a0 a1 a2 a3 (0 : Int64) (0 : Int32) h _ _ hf
set_option maxRecDepth 4000 in
def zx_Ways_furthest_l54 (sc : zX) : Nat → Nat → Nat → Int32 → Int32 → Int32 → Int64 → Int32 → Int32 → zH → (Nat → Nat → Int32 → Int32 → Int32 → Int64 → Int32 → zH → Option (Int64 × zH)) → Option (Int64 × zH)
  | 0, _, _, _, _, _, _, _, _, _, _ => none
  | n + 1, y30, y31, y32, y33, y34, y35, y36, y37, h38, k84 => if y33 ≤ y37 then (k84 y30 y31 y32 y33 y34 y35 y36 h38) else (zo_b (zo_gR h38 8 y30 4) (fun v40 => zo_b (zo_gR h38 8 y30 10) (fun v42 => zo_c (zx_at sc v42 y37 h38) (fun v45 h44 => zo_c (zx_put sc v40 y37 v45 h44) (fun w48 h47 => zx_Ways_furthest_l54 sc n y30 y31 y32 y33 y34 y35 y36 (y37 + (1 : Int32)) h47 k84)))))
set_option maxRecDepth 4000 in
def zx_Ways_furthest_l16 (sc : zX) : Nat → Nat → Nat → Int32 → Int32 → Int32 → Int64 → Int32 → zH → Option (Int64 × zH)
  | 0, _, _, _, _, _, _, _, _ => none
  | n + 1, y4, y5, y6, y7, y8, y9, y10, h11 => if y8 ≤ y10 then (some (y9, h11)) else (zo_v h11 y4 8 (zx_Ways_spell sc y4 y10 y7 h11) (fun w14 h13 => zo_v h13 y4 8 (zx_Ways_reached sc y4 y5 y6 y7 h13) (fun v18 h17 => zo_l (fun (x21 : Nat) (x22 : Nat) (x23 : Int32) (x24 : Int32) (x25 : Int32) (x26 : Int64) (x27 : Int32) (h28 : zH) => zx_Ways_furthest_l16 sc n x21 x22 x23 x24 x25 x26 (x27 + (1 : Int32)) h28 ) (fun j84_28 => if (lg_cmp v18 y9) ≤ 0 then (j84_28 y4 y5 y6 y7 y8 y9 y10 h17) else (zx_Ways_furthest_l54 sc zo_F y4 y5 y6 y7 y8 v18 y10 (0 : Int32) h17 (fun (x50 : Nat) (x51 : Nat) (x52 : Int32) (x53 : Int32) (x54 : Int32) (x55 : Int64) (x56 : Int32) (h57 : zH) => j84_28 x50 x51 x52 x53 x54 x55 x56 h57))))))
set_option maxRecDepth 4000 in
def zx_Ways_furthest (sc : zX) (a0 : Nat) (a1 : Nat) (a2 : Int32) (a3 : Int32) (h : zH) : Option (Int64 × zH) := zo_c (zx_power sc (3 : Int32) a3 h) (fun v2 h1 => zx_Ways_furthest_l16 sc zo_F a0 a1 a2 a3 v2.toInt32 (-1 : Int64) (0 : Int32) h1 )
set_option maxRecDepth 4000 in
theorem zx_Ways_furthest_l54_ok (sc : zX) (d : Nat) (hd : 3 ≤ d) : ∀ (n : Nat) (y30 : Nat) (y31 : Nat) (y32 : Int32) (y33 : Int32) (y34 : Int32) (y35 : Int64) (y36 : Int32) (y37 : Int32) (h38 : zH) (k84 : Nat → Nat → Int32 → Int32 → Int32 → Int64 → Int32 → zH → Option (Int64 × zH)) (ro_ : Int64) (ho_ : zH), (∀ (z0 : Nat) (z1 : Nat) (z2 : Int32) (z3 : Int32) (z4 : Int32) (z5 : Int64) (z6 : Int32) (hz : zH), k84 z0 z1 z2 z3 z4 z5 z6 hz = some (ro_, ho_) → zq_wp sc (d + 1) 106 84 [some (.ref z0), some (.ref z1), some (.int z2), some (.int z3), some (.int z4), some (.long z5), none, some (.int z6), none, none, none] [] hz (some (.long ro_), ho_)) → zx_Ways_furthest_l54 sc n y30 y31 y32 y33 y34 y35 y36 y37 h38 k84 = some (ro_, ho_) → zq_wp sc (d + 1) 106 54 [some (.ref y30), some (.ref y31), some (.int y32), some (.int y33), some (.int y34), some (.long y35), none, some (.int y36), none, none, some (.int y37)] [] h38 (some (.long ro_), ho_) := by
  intro n
  induction n with
  | zero => intro y30 y31 y32 y33 y34 y35 y36 y37 h38 k84 ro_ ho_ hk84 hf; cases hf
  | succ n ih =>
    intro y30 y31 y32 y33 y34 y35 y36 y37 h38 k84 ro_ ho_ hk84 hf
    refine zq_wg 2 (pc' := 57) (lv' := [some (.ref y30), some (.ref y31), some (.int y32), some (.int y33), some (.int y34), some (.long y35), none, some (.int y36), none, none, some (.int y37)]) (st' := [.int y33, .int y37]) (h' := h38) rfl ?_
    refine zr_if (y33 ≤ y37) 84 60 (st' := []) rfl rfl (fun b39 => ?_) (fun b39 => ?_)
    · have hf := zo_t hf b39
      refine zq_fg [some (.ref y30), some (.ref y31), some (.int y32), some (.int y33), some (.int y34), some (.long y35), none, some (.int y36), none, none, none] (zq_lvle_s (zq_lvle_s (zq_lvle_s (zq_lvle_s (zq_lvle_s (zq_lvle_s (zq_lvle_s (zq_lvle_s (zq_lvle_s (zq_lvle_s (zq_lvle_n zq_lvle_nil))))))))))) ?_
      exact hk84 y30 y31 y32 y33 y34 y35 y36 h38 hf
    · have hf := zo_f hf b39
      refine zq_wg 1 (pc' := 61) (lv' := [some (.ref y30), some (.ref y31), some (.int y32), some (.int y33), some (.int y34), some (.long y35), none, some (.int y36), none, none, some (.int y37)]) (st' := [.ref y30]) (h' := h38) rfl ?_
      obtain ⟨v40, e41, hf⟩ := zo_b_s hf
      refine zr_gR rfl rfl (by decide) rfl e41 ?_
      refine zq_wg 2 (pc' := 67) (lv' := [some (.ref y30), some (.ref y31), some (.int y32), some (.int y33), some (.int y34), some (.long y35), none, some (.int y36), none, none, some (.int y37)]) (st' := [.ref y30, .int y37, .ref v40]) (h' := h38) rfl ?_
      obtain ⟨v42, e43, hf⟩ := zo_b_s hf
      refine zr_gR rfl rfl (by decide) rfl e43 ?_
      refine zq_wg 1 (pc' := 72) (lv' := [some (.ref y30), some (.ref y31), some (.int y32), some (.int y33), some (.int y34), some (.long y35), none, some (.int y36), none, none, some (.int y37)]) (st' := [.int y37, .ref v42, .int y37, .ref v40]) (h' := h38) rfl ?_
      obtain ⟨v45, h44, e46, hf⟩ := zo_c_s hf
      refine zr_cs zq_m12 [.ref v42, .int y37] [.int y37, .ref v40] rfl rfl (by decide) rfl rfl rfl (Nat.le_of_ble_eq_true rfl) (Nat.le_of_ble_eq_true rfl) (zx_at_ok sc d (by omega) e46) ?_
      refine zq_wg 0 (pc' := 75) (lv' := [some (.ref y30), some (.ref y31), some (.int y32), some (.int y33), some (.int y34), some (.long y35), none, some (.int y36), none, none, some (.int y37)]) (st' := [.int v45, .int y37, .ref v40]) (h' := h44) rfl ?_
      obtain ⟨w48, h47, e49, hf⟩ := zo_c_s hf
      refine zr_cs zq_m11 [.ref v40, .int y37, .int v45] [] rfl rfl (by decide) rfl rfl rfl (Nat.le_of_ble_eq_true rfl) (Nat.le_of_ble_eq_true rfl) (zx_put_ok sc d (by omega) e49) ?_
      refine zq_wg 0 (pc' := 78) (lv' := [some (.ref y30), some (.ref y31), some (.int y32), some (.int y33), some (.int y34), some (.long y35), none, some (.int y36), none, none, some (.int y37)]) (st' := []) (h' := h47) rfl ?_
      refine zq_wg 2 (pc' := 54) (lv' := [some (.ref y30), some (.ref y31), some (.int y32), some (.int y33), some (.int y34), some (.long y35), none, some (.int y36), none, none, some (.int (y37 + (1 : Int32)))]) (st' := []) (h' := h47) rfl ?_
      exact ih y30 y31 y32 y33 y34 y35 y36 (y37 + (1 : Int32)) h47 _ _ _ hk84 hf
set_option maxRecDepth 4000 in
theorem zx_Ways_furthest_l16_ok (sc : zX) (d : Nat) (hd : 3 ≤ d) : ∀ (n : Nat) (y4 : Nat) (y5 : Nat) (y6 : Int32) (y7 : Int32) (y8 : Int32) (y9 : Int64) (y10 : Int32) (h11 : zH) (ro_ : Int64) (ho_ : zH),  zx_Ways_furthest_l16 sc n y4 y5 y6 y7 y8 y9 y10 h11  = some (ro_, ho_) → zq_wp sc (d + 1) 106 16 [some (.ref y4), some (.ref y5), some (.int y6), some (.int y7), some (.int y8), some (.long y9), none, some (.int y10), none, none, none] [] h11 (some (.long ro_), ho_) := by
  intro n
  induction n with
  | zero => intro y4 y5 y6 y7 y8 y9 y10 h11 ro_ ho_ hf; cases hf
  | succ n ih =>
    intro y4 y5 y6 y7 y8 y9 y10 h11 ro_ ho_ hf
    refine zq_wg 2 (pc' := 20) (lv' := [some (.ref y4), some (.ref y5), some (.int y6), some (.int y7), some (.int y8), some (.long y9), none, some (.int y10), none, none, none]) (st' := [.int y8, .int y10]) (h' := h11) rfl ?_
    refine zr_if (y8 ≤ y10) 90 23 (st' := []) rfl rfl (fun b12 => ?_) (fun b12 => ?_)
    · have hf := zo_t hf b12
      refine zq_wg 1 (pc' := 92) (lv' := [some (.ref y4), some (.ref y5), some (.int y6), some (.int y7), some (.int y8), some (.long y9), none, some (.int y10), none, none, none]) (st' := [.long y9]) (h' := h11) rfl ?_
      exact zr_rl rfl rfl hf
    · have hf := zo_f hf b12
      refine zq_wg 3 (pc' := 27) (lv' := [some (.ref y4), some (.ref y5), some (.int y6), some (.int y7), some (.int y8), some (.long y9), none, some (.int y10), none, none, none]) (st' := [.int y7, .int y10, .ref y4]) (h' := h11) rfl ?_
      obtain ⟨e16, w14, h13, e15, hf⟩ := zo_v_s hf
      refine zr_cv zq_m108 [.int y10, .int y7] [] rfl rfl rfl rfl rfl (Nat.le_of_ble_eq_true rfl) (Nat.le_of_ble_eq_true rfl) e16 (zx_Ways_spell_ok sc d (by omega) e15) ?_
      refine zq_wg 0 (pc' := 30) (lv' := [some (.ref y4), some (.ref y5), some (.int y6), some (.int y7), some (.int y8), some (.long y9), none, some (.int y10), none, none, none]) (st' := []) (h' := h13) rfl ?_
      refine zq_wg 4 (pc' := 34) (lv' := [some (.ref y4), some (.ref y5), some (.int y6), some (.int y7), some (.int y8), some (.long y9), none, some (.int y10), none, none, none]) (st' := [.int y7, .int y6, .ref y5, .ref y4]) (h' := h13) rfl ?_
      obtain ⟨e20, v18, h17, e19, hf⟩ := zo_v_s hf
      refine zr_cv zq_m109 [.ref y5, .int y6, .int y7] [] rfl rfl rfl rfl rfl (Nat.le_of_ble_eq_true rfl) (Nat.le_of_ble_eq_true rfl) e20 (zx_Ways_reached_ok sc d (by omega) e19) ?_
      refine zq_wg 0 (pc' := 37) (lv' := [some (.ref y4), some (.ref y5), some (.int y6), some (.int y7), some (.int y8), some (.long y9), none, some (.int y10), none, none, none]) (st' := [.long v18]) (h' := h17) rfl ?_
      refine zq_wg 4 (pc' := 44) (lv' := [some (.ref y4), some (.ref y5), some (.int y6), some (.int y7), some (.int y8), some (.long y9), none, some (.int y10), some (.long v18), none, none]) (st' := [.int (lg_cmp v18 y9)]) (h' := h17) rfl ?_
      obtain ⟨j84_28, hjj84_28, hf⟩ := zo_lj hf
      have kj84_28 : ∀ (x21 : Nat) (x22 : Nat) (x23 : Int32) (x24 : Int32) (x25 : Int32) (x26 : Int64) (x27 : Int32) (h28 : zH), j84_28 x21 x22 x23 x24 x25 x26 x27 h28 = some (ro_, ho_) → zq_wp sc (d + 1) 106 84 [some (.ref x21), some (.ref x22), some (.int x23), some (.int x24), some (.int x25), some (.long x26), none, some (.int x27), none, none, none] [] h28 (some (.long ro_), ho_) := by
        intro x21 x22 x23 x24 x25 x26 x27 h28 hf
        rw [hjj84_28] at hf
        refine zq_wg 2 (pc' := 16) (lv' := [some (.ref x21), some (.ref x22), some (.int x23), some (.int x24), some (.int x25), some (.long x26), none, some (.int (x27 + (1 : Int32))), none, none, none]) (st' := []) (h' := h28) rfl ?_
        exact ih x21 x22 x23 x24 x25 x26 (x27 + (1 : Int32)) h28 _ _ hf
      refine zr_if ((lg_cmp v18 y9) ≤ 0) 84 47 (st' := []) rfl rfl (fun b29 => ?_) (fun b29 => ?_)
      · have hf := zo_t hf b29
        refine zq_fg [some (.ref y4), some (.ref y5), some (.int y6), some (.int y7), some (.int y8), some (.long y9), none, some (.int y10), none, none, none] (zq_lvle_s (zq_lvle_s (zq_lvle_s (zq_lvle_s (zq_lvle_s (zq_lvle_s (zq_lvle_s (zq_lvle_s (zq_lvle_n (zq_lvle_s (zq_lvle_s zq_lvle_nil))))))))))) ?_
        exact kj84_28 y4 y5 y6 y7 y8 y9 y10 h17 hf
      · have hf := zo_f hf b29
        refine zq_wg 4 (pc' := 54) (lv' := [some (.ref y4), some (.ref y5), some (.int y6), some (.int y7), some (.int y8), some (.long v18), none, some (.int y10), some (.long v18), none, some (.int (0 : Int32))]) (st' := []) (h' := h17) rfl ?_
        refine zq_fg [some (.ref y4), some (.ref y5), some (.int y6), some (.int y7), some (.int y8), some (.long v18), none, some (.int y10), none, none, some (.int (0 : Int32))] (zq_lvle_s (zq_lvle_s (zq_lvle_s (zq_lvle_s (zq_lvle_s (zq_lvle_s (zq_lvle_s (zq_lvle_s (zq_lvle_n (zq_lvle_s (zq_lvle_s zq_lvle_nil))))))))))) ?_
        refine zx_Ways_furthest_l54_ok sc d hd zo_F y4 y5 y6 y7 y8 v18 y10 (0 : Int32) h17 _ _ _ ?_ hf
        · intro x50 x51 x52 x53 x54 x55 x56 h57 hf
          exact kj84_28 x50 x51 x52 x53 x54 x55 x56 h57 hf
set_option maxRecDepth 4000 in
theorem zx_Ways_furthest_ok (sc : zX) (d : Nat) (hd : 4 ≤ d) {a0 : Nat} {a1 : Nat} {a2 : Int32} {a3 : Int32} {h : zH} {ro_ : Int64} {ho_ : zH} (hf : zx_Ways_furthest sc a0 a1 a2 a3 h = some (ro_, ho_)) : zq_wm sc d 106 [.ref a0, .ref a1, .int a2, .int a3] h (some (.long ro_), ho_) := by
  unfold zx_Ways_furthest at hf
  obtain ⟨d, rfl⟩ : ∃ d', d = d' + 1 := ⟨d - 1, by omega⟩
  have hd : 3 ≤ d := by omega
  show zq_wp sc (d + 1) 106 0 [some (.ref a0), some (.ref a1), some (.int a2), some (.int a3), none, none, none, none, none, none, none] [] h _
  refine zq_wg 2 (pc' := 2) (lv' := [some (.ref a0), some (.ref a1), some (.int a2), some (.int a3), none, none, none, none, none, none, none]) (st' := [.int a3, .int (3 : Int32)]) (h' := h) rfl ?_
  obtain ⟨v2, h1, e3, hf⟩ := zo_c_s hf
  refine zr_cs zq_m107 [.int (3 : Int32), .int a3] [] rfl rfl (by decide) rfl rfl rfl (Nat.le_of_ble_eq_true rfl) (Nat.le_of_ble_eq_true rfl) (zx_power_ok sc d (by omega) e3) ?_
  refine zq_wg 0 (pc' := 5) (lv' := [some (.ref a0), some (.ref a1), some (.int a2), some (.int a3), none, none, none, none, none, none, none]) (st' := [.long v2]) (h' := h1) rfl ?_
  refine zq_wg 6 (pc' := 16) (lv' := [some (.ref a0), some (.ref a1), some (.int a2), some (.int a3), some (.int v2.toInt32), some (.long (-1 : Int64)), none, some (.int (0 : Int32)), none, none, none]) (st' := []) (h' := h1) rfl ?_
  refine zx_Ways_furthest_l16_ok sc d hd zo_F a0 a1 a2 a3 v2.toInt32 (-1 : Int64) (0 : Int32) h1 _ _ hf
set_option maxRecDepth 4000 in
def zx_plan (sc : zX) (a0 : Nat) (a1 : Int32) (a2 : Int32) (h : zH) : Option (Int32 × zH) := zo_c (zx_within sc a1 (1 : Int32) (5 : Int32) h) (fun v2 h1 => if v2 = 0 then (some ((-1 : Int32), h1)) else (zo_c (zx_within sc a2 (0 : Int32) a1 h1) (fun v6 h5 => if v6 = 0 then (some ((-1 : Int32), h5)) else (zo_b (zo_gR h5 9 a0 4) (fun v9 => zo_b (zo_gR h5 9 a0 11) (fun v11 => zo_v h5 v9 8 (zx_Ways_learn sc v9 v11 h5) (fun w14 h13 => zo_b (zo_gR h13 9 a0 4) (fun v17 => zo_b (zo_gR h13 9 a0 11) (fun v19 => zo_b (zo_gR h13 9 a0 1) (fun v21 => zo_b (zo_gI h13 4 v21 3) (fun v23 => zo_v h13 v17 8 (zx_Ways_furthest sc v17 v19 v23 a1 h13) (fun v26 h25 => if a2 = 0 then (zo_b (zo_gR h25 9 a0 4) (fun v30 => zo_v h25 v30 8 (zx_Ways_thousandths sc v30 v26 h25) (fun v33 h32 => some (v33, h32)))) else (zo_b (zo_gR h25 9 a0 4) (fun v36 => zo_b (zo_gR h25 8 v36 4) (fun v38 => zo_c (zx_at sc v38 (a2 - (1 : Int32)) h25) (fun v41 h40 => some (v41, h40)))))))))))))))))
set_option maxRecDepth 4000 in
theorem zx_plan_ok (sc : zX) (d : Nat) (hd : 71 ≤ d) {a0 : Nat} {a1 : Int32} {a2 : Int32} {h : zH} {ro_ : Int32} {ho_ : zH} (hf : zx_plan sc a0 a1 a2 h = some (ro_, ho_)) : zq_wm sc d 105 [.ref a0, .int a1, .int a2] h (some (.int ro_), ho_) := by
  unfold zx_plan at hf
  obtain ⟨d, rfl⟩ : ∃ d', d = d' + 1 := ⟨d - 1, by omega⟩
  have hd : 70 ≤ d := by omega
  show zq_wp sc (d + 1) 105 0 [some (.ref a0), some (.int a1), some (.int a2), none, none] [] h _
  refine zq_wg 3 (pc' := 3) (lv' := [some (.ref a0), some (.int a1), some (.int a2), none, none]) (st' := [.int (5 : Int32), .int (1 : Int32), .int a1]) (h' := h) rfl ?_
  obtain ⟨v2, h1, e3, hf⟩ := zo_c_s hf
  refine zr_cs zq_m35 [.int a1, .int (1 : Int32), .int (5 : Int32)] [] rfl rfl (by decide) rfl rfl rfl (Nat.le_of_ble_eq_true rfl) (Nat.le_of_ble_eq_true rfl) (zx_within_ok sc d (by omega) e3) ?_
  refine zq_wg 0 (pc' := 6) (lv' := [some (.ref a0), some (.int a1), some (.int a2), none, none]) (st' := [.int v2]) (h' := h1) rfl ?_
  refine zr_if (v2 = 0) 18 9 (st' := []) rfl rfl (fun b4 => ?_) (fun b4 => ?_)
  · have hf := zo_t hf b4
    refine zq_wg 1 (pc' := 19) (lv' := [some (.ref a0), some (.int a1), some (.int a2), none, none]) (st' := [.int (-1 : Int32)]) (h' := h1) rfl ?_
    exact zr_ri rfl rfl rfl hf
  · have hf := zo_f hf b4
    refine zq_wg 3 (pc' := 12) (lv' := [some (.ref a0), some (.int a1), some (.int a2), none, none]) (st' := [.int a1, .int (0 : Int32), .int a2]) (h' := h1) rfl ?_
    obtain ⟨v6, h5, e7, hf⟩ := zo_c_s hf
    refine zr_cs zq_m35 [.int a2, .int (0 : Int32), .int a1] [] rfl rfl (by decide) rfl rfl rfl (Nat.le_of_ble_eq_true rfl) (Nat.le_of_ble_eq_true rfl) (zx_within_ok sc d (by omega) e7) ?_
    refine zq_wg 0 (pc' := 15) (lv' := [some (.ref a0), some (.int a1), some (.int a2), none, none]) (st' := [.int v6]) (h' := h5) rfl ?_
    refine zr_if (v6 = 0) 18 20 (st' := []) rfl rfl (fun b8 => ?_) (fun b8 => ?_)
    · have hf := zo_t hf b8
      refine zq_wg 1 (pc' := 19) (lv' := [some (.ref a0), some (.int a1), some (.int a2), none, none]) (st' := [.int (-1 : Int32)]) (h' := h5) rfl ?_
      exact zr_ri rfl rfl rfl hf
    · have hf := zo_f hf b8
      refine zq_wg 1 (pc' := 21) (lv' := [some (.ref a0), some (.int a1), some (.int a2), none, none]) (st' := [.ref a0]) (h' := h5) rfl ?_
      obtain ⟨v9, e10, hf⟩ := zo_b_s hf
      refine zr_gR rfl rfl (by decide) rfl e10 ?_
      refine zq_wg 1 (pc' := 25) (lv' := [some (.ref a0), some (.int a1), some (.int a2), none, none]) (st' := [.ref a0, .ref v9]) (h' := h5) rfl ?_
      obtain ⟨v11, e12, hf⟩ := zo_b_s hf
      refine zr_gR rfl rfl (by decide) rfl e12 ?_
      obtain ⟨e16, w14, h13, e15, hf⟩ := zo_v_s hf
      refine zr_cv zq_m99 [.ref v11] [] rfl rfl rfl rfl rfl (Nat.le_of_ble_eq_true rfl) (Nat.le_of_ble_eq_true rfl) e16 (zx_Ways_learn_ok sc d (by omega) e15) ?_
      refine zq_wg 0 (pc' := 31) (lv' := [some (.ref a0), some (.int a1), some (.int a2), none, none]) (st' := []) (h' := h13) rfl ?_
      refine zq_wg 1 (pc' := 32) (lv' := [some (.ref a0), some (.int a1), some (.int a2), none, none]) (st' := [.ref a0]) (h' := h13) rfl ?_
      obtain ⟨v17, e18, hf⟩ := zo_b_s hf
      refine zr_gR rfl rfl (by decide) rfl e18 ?_
      refine zq_wg 1 (pc' := 36) (lv' := [some (.ref a0), some (.int a1), some (.int a2), none, none]) (st' := [.ref a0, .ref v17]) (h' := h13) rfl ?_
      obtain ⟨v19, e20, hf⟩ := zo_b_s hf
      refine zr_gR rfl rfl (by decide) rfl e20 ?_
      refine zq_wg 1 (pc' := 40) (lv' := [some (.ref a0), some (.int a1), some (.int a2), none, none]) (st' := [.ref a0, .ref v19, .ref v17]) (h' := h13) rfl ?_
      obtain ⟨v21, e22, hf⟩ := zo_b_s hf
      refine zr_gR rfl rfl (by decide) rfl e22 ?_
      obtain ⟨v23, e24, hf⟩ := zo_b_s hf
      refine zr_gI rfl rfl (by decide) rfl e24 ?_
      refine zq_wg 1 (pc' := 47) (lv' := [some (.ref a0), some (.int a1), some (.int a2), none, none]) (st' := [.int a1, .int v23, .ref v19, .ref v17]) (h' := h13) rfl ?_
      obtain ⟨e28, v26, h25, e27, hf⟩ := zo_v_s hf
      refine zr_cv zq_m106 [.ref v19, .int v23, .int a1] [] rfl rfl rfl rfl rfl (Nat.le_of_ble_eq_true rfl) (Nat.le_of_ble_eq_true rfl) e28 (zx_Ways_furthest_ok sc d (by omega) e27) ?_
      refine zq_wg 0 (pc' := 50) (lv' := [some (.ref a0), some (.int a1), some (.int a2), none, none]) (st' := [.long v26]) (h' := h25) rfl ?_
      refine zq_wg 2 (pc' := 52) (lv' := [some (.ref a0), some (.int a1), some (.int a2), some (.long v26), none]) (st' := [.int a2]) (h' := h25) rfl ?_
      refine zr_if (a2 = 0) 55 66 (st' := []) rfl rfl (fun b29 => ?_) (fun b29 => ?_)
      · have hf := zo_t hf b29
        refine zq_wg 1 (pc' := 56) (lv' := [some (.ref a0), some (.int a1), some (.int a2), some (.long v26), none]) (st' := [.ref a0]) (h' := h25) rfl ?_
        obtain ⟨v30, e31, hf⟩ := zo_b_s hf
        refine zr_gR rfl rfl (by decide) rfl e31 ?_
        refine zq_wg 1 (pc' := 60) (lv' := [some (.ref a0), some (.int a1), some (.int a2), some (.long v26), none]) (st' := [.long v26, .ref v30]) (h' := h25) rfl ?_
        obtain ⟨e35, v33, h32, e34, hf⟩ := zo_v_s hf
        refine zr_cv zq_m103 [.long v26] [] rfl rfl rfl rfl rfl (Nat.le_of_ble_eq_true rfl) (Nat.le_of_ble_eq_true rfl) e35 (zx_Ways_thousandths_ok sc d (by omega) e34) ?_
        refine zq_wg 0 (pc' := 63) (lv' := [some (.ref a0), some (.int a1), some (.int a2), some (.long v26), none]) (st' := [.int v33]) (h' := h32) rfl ?_
        refine zq_wg 1 (pc' := 79) (lv' := [some (.ref a0), some (.int a1), some (.int a2), some (.long v26), none]) (st' := [.int v33]) (h' := h32) rfl ?_
        exact zr_ri rfl rfl rfl hf
      · have hf := zo_f hf b29
        refine zq_wg 1 (pc' := 67) (lv' := [some (.ref a0), some (.int a1), some (.int a2), some (.long v26), none]) (st' := [.ref a0]) (h' := h25) rfl ?_
        obtain ⟨v36, e37, hf⟩ := zo_b_s hf
        refine zr_gR rfl rfl (by decide) rfl e37 ?_
        obtain ⟨v38, e39, hf⟩ := zo_b_s hf
        refine zr_gR rfl rfl (by decide) rfl e39 ?_
        refine zq_wg 3 (pc' := 76) (lv' := [some (.ref a0), some (.int a1), some (.int a2), some (.long v26), none]) (st' := [.int (a2 - (1 : Int32)), .ref v38]) (h' := h25) rfl ?_
        obtain ⟨v41, h40, e42, hf⟩ := zo_c_s hf
        refine zr_cs zq_m12 [.ref v38, .int (a2 - (1 : Int32))] [] rfl rfl (by decide) rfl rfl rfl (Nat.le_of_ble_eq_true rfl) (Nat.le_of_ble_eq_true rfl) (zx_at_ok sc d (by omega) e42) ?_
        refine zq_wg 0 (pc' := 79) (lv' := [some (.ref a0), some (.int a1), some (.int a2), some (.long v26), none]) (st' := [.int v41]) (h' := h40) rfl ?_
        exact zr_ri rfl rfl rfl hf
set_option maxRecDepth 4000 in
def zx_Army_likingOf (sc : zX) (a0 : Nat) (a1 : Int32) (a2 : Int32) (h : zH) : Option (Int32 × zH) := zo_v h a0 0 (zx_Army_hasMan sc a0 a1 h) (fun v2 h1 => if v2 = 0 then (some ((0 : Int32), h1)) else (zo_v h1 a0 0 (zx_Army_hasPost sc a0 a2 h1) (fun v7 h6 => if v7 = 0 then (some ((0 : Int32), h6)) else (zo_b (zo_gR h6 0 a0 16) (fun v11 => zo_c (zx_at sc v11 ((a1 * (6 : Int32)) + a2) h6) (fun v14 h13 => some (v14, h13)))))))
set_option maxRecDepth 4000 in
theorem zx_Army_likingOf_ok (sc : zX) (d : Nat) (hd : 1 ≤ d) {a0 : Nat} {a1 : Int32} {a2 : Int32} {h : zH} {ro_ : Int32} {ho_ : zH} (hf : zx_Army_likingOf sc a0 a1 a2 h = some (ro_, ho_)) : zq_wm sc d 115 [.ref a0, .int a1, .int a2] h (some (.int ro_), ho_) := by
  unfold zx_Army_likingOf at hf
  obtain ⟨d, rfl⟩ : ∃ d', d = d' + 1 := ⟨d - 1, by omega⟩
  have hd : 0 ≤ d := by omega
  show zq_wp sc (d + 1) 115 0 [some (.ref a0), some (.int a1), some (.int a2)] [] h _
  refine zq_wg 2 (pc' := 2) (lv' := [some (.ref a0), some (.int a1), some (.int a2)]) (st' := [.int a1, .ref a0]) (h' := h) rfl ?_
  obtain ⟨e4, v2, h1, e3, hf⟩ := zo_v_s hf
  refine zr_cv zq_m69 [.int a1] [] rfl rfl rfl rfl rfl (Nat.le_of_ble_eq_true rfl) (Nat.le_of_ble_eq_true rfl) e4 (zx_Army_hasMan_ok sc d (by omega) e3) ?_
  refine zq_wg 0 (pc' := 5) (lv' := [some (.ref a0), some (.int a1), some (.int a2)]) (st' := [.int v2]) (h' := h1) rfl ?_
  refine zr_if (v2 = 0) 32 8 (st' := []) rfl rfl (fun b5 => ?_) (fun b5 => ?_)
  · have hf := zo_t hf b5
    refine zq_wg 1 (pc' := 33) (lv' := [some (.ref a0), some (.int a1), some (.int a2)]) (st' := [.int (0 : Int32)]) (h' := h1) rfl ?_
    exact zr_ri rfl rfl rfl hf
  · have hf := zo_f hf b5
    refine zq_wg 2 (pc' := 10) (lv' := [some (.ref a0), some (.int a1), some (.int a2)]) (st' := [.int a2, .ref a0]) (h' := h1) rfl ?_
    obtain ⟨e9, v7, h6, e8, hf⟩ := zo_v_s hf
    refine zr_cv zq_m66 [.int a2] [] rfl rfl rfl rfl rfl (Nat.le_of_ble_eq_true rfl) (Nat.le_of_ble_eq_true rfl) e9 (zx_Army_hasPost_ok sc d (by omega) e8) ?_
    refine zq_wg 0 (pc' := 13) (lv' := [some (.ref a0), some (.int a1), some (.int a2)]) (st' := [.int v7]) (h' := h6) rfl ?_
    refine zr_if (v7 = 0) 32 16 (st' := []) rfl rfl (fun b10 => ?_) (fun b10 => ?_)
    · have hf := zo_t hf b10
      refine zq_wg 1 (pc' := 33) (lv' := [some (.ref a0), some (.int a1), some (.int a2)]) (st' := [.int (0 : Int32)]) (h' := h6) rfl ?_
      exact zr_ri rfl rfl rfl hf
    · have hf := zo_f hf b10
      refine zq_wg 1 (pc' := 17) (lv' := [some (.ref a0), some (.int a1), some (.int a2)]) (st' := [.ref a0]) (h' := h6) rfl ?_
      obtain ⟨v11, e12, hf⟩ := zo_b_s hf
      refine zr_gR rfl rfl (by decide) rfl e12 ?_
      refine zq_wg 5 (pc' := 26) (lv' := [some (.ref a0), some (.int a1), some (.int a2)]) (st' := [.int ((a1 * (6 : Int32)) + a2), .ref v11]) (h' := h6) rfl ?_
      obtain ⟨v14, h13, e15, hf⟩ := zo_c_s hf
      refine zr_cs zq_m12 [.ref v11, .int ((a1 * (6 : Int32)) + a2)] [] rfl rfl (by decide) rfl rfl rfl (Nat.le_of_ble_eq_true rfl) (Nat.le_of_ble_eq_true rfl) (zx_at_ok sc d (by omega) e15) ?_
      refine zq_wg 0 (pc' := 29) (lv' := [some (.ref a0), some (.int a1), some (.int a2)]) (st' := [.int v14]) (h' := h13) rfl ?_
      refine zq_wg 1 (pc' := 33) (lv' := [some (.ref a0), some (.int a1), some (.int a2)]) (st' := [.int v14]) (h' := h13) rfl ?_
      exact zr_ri rfl rfl rfl hf
set_option maxRecDepth 4000 in
def zx_Trade_likedBest_l6 (sc : zX) : Nat → Nat → Nat → Int32 → Int32 → Int32 → Int32 → zH → Option (Int32 × zH)
  | 0, _, _, _, _, _, _, _ => none
  | n + 1, y1, y2, y3, y4, y5, y6, h7 => zo_b (zo_gI h7 0 y1 0) (fun v8 => if v8 ≤ y6 then (some (y5, h7)) else (zo_b (zo_gR h7 4 y2 0) (fun v11 => zo_c (zx_at sc v11 y6 h7) (fun v14 h13 => zo_l (fun (x16 : Nat) (x17 : Nat) (x18 : Int32) (x19 : Int32) (x20 : Int32) (x21 : Int32) (x22 : Int32) (h23 : zH) => zo_l (fun (x24 : Nat) (x25 : Nat) (x26 : Int32) (x27 : Int32) (x28 : Int32) (x29 : Int32) (h30 : zH) => zx_Trade_likedBest_l6 sc n x24 x25 x26 x27 x28 (x29 + (1 : Int32)) h30 ) (fun j81_30 => if x22 = 0 then (j81_30 x16 x17 x18 x19 x20 x21 h23) else (zo_l (fun (x32 : Nat) (x33 : Nat) (x34 : Int32) (x35 : Int32) (x36 : Int32) (h37 : zH) => j81_30 x32 x33 x34 x35 x36 x36 h37) (fun j77_37 => if x20 = (-1 : Int32) then (j77_37 x16 x17 x18 x19 x21 h23) else (zo_v h23 x16 0 (zx_Army_likingOf sc x16 x18 x21 h23) (fun v40 h39 => zo_v h39 x16 0 (zx_Army_likingOf sc x16 x18 x20 h39) (fun v44 h43 => if v40 ≤ v44 then (j81_30 x16 x17 x18 x19 x20 x21 h43) else (j77_37 x16 x17 x18 x19 x21 h43)))))))) (fun j47_23 => zo_l (fun (x48 : Nat) (x49 : Nat) (x50 : Int32) (x51 : Int32) (x52 : Int32) (x53 : Int32) (h54 : zH) => j47_23 x48 x49 x50 x51 x52 x53 (0 : Int32) h54) (fun j46_54 => if v14 = (-1 : Int32) then (j46_54 y1 y2 y3 y4 y5 y6 h13) else (if ((y4 >>> (v14 &&& 31)) &&& (1 : Int32)) = (1 : Int32) then (j47_23 y1 y2 y3 y4 y5 y6 (1 : Int32) h13) else (j46_54 y1 y2 y3 y4 y5 y6 h13))))))))
set_option maxRecDepth 4000 in
def zx_Trade_likedBest (sc : zX) (a0 : Nat) (a1 : Nat) (a2 : Int32) (a3 : Int32) (h : zH) : Option (Int32 × zH) := zx_Trade_likedBest_l6 sc zo_F a0 a1 a2 a3 (-1 : Int32) (0 : Int32) h 
set_option maxRecDepth 4000 in
theorem zx_Trade_likedBest_l6_ok (sc : zX) (d : Nat) (hd : 1 ≤ d) : ∀ (n : Nat) (y1 : Nat) (y2 : Nat) (y3 : Int32) (y4 : Int32) (y5 : Int32) (y6 : Int32) (h7 : zH) (ro_ : Int32) (ho_ : zH),  zx_Trade_likedBest_l6 sc n y1 y2 y3 y4 y5 y6 h7  = some (ro_, ho_) → zq_wp sc (d + 1) 114 6 [some (.ref y1), some (.ref y2), some (.int y3), some (.int y4), some (.int y5), some (.int y6), none, none] [] h7 (some (.int ro_), ho_) := by
  intro n
  induction n with
  | zero => intro y1 y2 y3 y4 y5 y6 h7 ro_ ho_ hf; cases hf
  | succ n ih =>
    intro y1 y2 y3 y4 y5 y6 h7 ro_ ho_ hf
    refine zq_wg 2 (pc' := 9) (lv' := [some (.ref y1), some (.ref y2), some (.int y3), some (.int y4), some (.int y5), some (.int y6), none, none]) (st' := [.ref y1, .int y6]) (h' := h7) rfl ?_
    obtain ⟨v8, e9, hf⟩ := zo_b_s hf
    refine zr_gI rfl rfl (by decide) rfl e9 ?_
    refine zr_if (v8 ≤ y6) 87 15 (st' := []) rfl rfl (fun b10 => ?_) (fun b10 => ?_)
    · have hf := zo_t hf b10
      refine zq_wg 1 (pc' := 89) (lv' := [some (.ref y1), some (.ref y2), some (.int y3), some (.int y4), some (.int y5), some (.int y6), none, none]) (st' := [.int y5]) (h' := h7) rfl ?_
      exact zr_ri rfl rfl rfl hf
    · have hf := zo_f hf b10
      refine zq_wg 1 (pc' := 16) (lv' := [some (.ref y1), some (.ref y2), some (.int y3), some (.int y4), some (.int y5), some (.int y6), none, none]) (st' := [.ref y2]) (h' := h7) rfl ?_
      obtain ⟨v11, e12, hf⟩ := zo_b_s hf
      refine zr_gR rfl rfl (by decide) rfl e12 ?_
      refine zq_wg 1 (pc' := 21) (lv' := [some (.ref y1), some (.ref y2), some (.int y3), some (.int y4), some (.int y5), some (.int y6), none, none]) (st' := [.int y6, .ref v11]) (h' := h7) rfl ?_
      obtain ⟨v14, h13, e15, hf⟩ := zo_c_s hf
      refine zr_cs zq_m12 [.ref v11, .int y6] [] rfl rfl (by decide) rfl rfl rfl (Nat.le_of_ble_eq_true rfl) (Nat.le_of_ble_eq_true rfl) (zx_at_ok sc d (by omega) e15) ?_
      refine zq_wg 0 (pc' := 24) (lv' := [some (.ref y1), some (.ref y2), some (.int y3), some (.int y4), some (.int y5), some (.int y6), none, none]) (st' := [.int v14]) (h' := h13) rfl ?_
      refine zq_wg 3 (pc' := 29) (lv' := [some (.ref y1), some (.ref y2), some (.int y3), some (.int y4), some (.int y5), some (.int y6), some (.int v14), none]) (st' := [.int (-1 : Int32), .int v14]) (h' := h13) rfl ?_
      obtain ⟨j47_23, hjj47_23, hf⟩ := zo_lj hf
      have kj47_23 : ∀ (x16 : Nat) (x17 : Nat) (x18 : Int32) (x19 : Int32) (x20 : Int32) (x21 : Int32) (x22 : Int32) (h23 : zH), j47_23 x16 x17 x18 x19 x20 x21 x22 h23 = some (ro_, ho_) → zq_wp sc (d + 1) 114 47 [some (.ref x16), some (.ref x17), some (.int x18), some (.int x19), some (.int x20), some (.int x21), none, none] [.int x22] h23 (some (.int ro_), ho_) := by
        intro x16 x17 x18 x19 x20 x21 x22 h23 hf
        rw [hjj47_23] at hf
        refine zq_wg 2 (pc' := 51) (lv' := [some (.ref x16), some (.ref x17), some (.int x18), some (.int x19), some (.int x20), some (.int x21), none, some (.int x22)]) (st' := [.int x22]) (h' := h23) rfl ?_
        obtain ⟨j81_30, hjj81_30, hf⟩ := zo_lj hf
        have kj81_30 : ∀ (x24 : Nat) (x25 : Nat) (x26 : Int32) (x27 : Int32) (x28 : Int32) (x29 : Int32) (h30 : zH), j81_30 x24 x25 x26 x27 x28 x29 h30 = some (ro_, ho_) → zq_wp sc (d + 1) 114 81 [some (.ref x24), some (.ref x25), some (.int x26), some (.int x27), some (.int x28), some (.int x29), none, none] [] h30 (some (.int ro_), ho_) := by
          intro x24 x25 x26 x27 x28 x29 h30 hf
          rw [hjj81_30] at hf
          refine zq_wg 2 (pc' := 6) (lv' := [some (.ref x24), some (.ref x25), some (.int x26), some (.int x27), some (.int x28), some (.int (x29 + (1 : Int32))), none, none]) (st' := []) (h' := h30) rfl ?_
          exact ih x24 x25 x26 x27 x28 (x29 + (1 : Int32)) h30 _ _ hf
        refine zr_if (x22 = 0) 81 54 (st' := []) rfl rfl (fun b31 => ?_) (fun b31 => ?_)
        · have hf := zo_t hf b31
          refine zq_fg [some (.ref x16), some (.ref x17), some (.int x18), some (.int x19), some (.int x20), some (.int x21), none, none] (zq_lvle_s (zq_lvle_s (zq_lvle_s (zq_lvle_s (zq_lvle_s (zq_lvle_s (zq_lvle_s (zq_lvle_n zq_lvle_nil)))))))) ?_
          exact kj81_30 x16 x17 x18 x19 x20 x21 h23 hf
        · have hf := zo_f hf b31
          refine zq_wg 2 (pc' := 57) (lv' := [some (.ref x16), some (.ref x17), some (.int x18), some (.int x19), some (.int x20), some (.int x21), none, some (.int x22)]) (st' := [.int (-1 : Int32), .int x20]) (h' := h23) rfl ?_
          obtain ⟨j77_37, hjj77_37, hf⟩ := zo_lj hf
          have kj77_37 : ∀ (x32 : Nat) (x33 : Nat) (x34 : Int32) (x35 : Int32) (x36 : Int32) (h37 : zH), j77_37 x32 x33 x34 x35 x36 h37 = some (ro_, ho_) → zq_wp sc (d + 1) 114 77 [some (.ref x32), some (.ref x33), some (.int x34), some (.int x35), none, some (.int x36), none, none] [] h37 (some (.int ro_), ho_) := by
            intro x32 x33 x34 x35 x36 h37 hf
            rw [hjj77_37] at hf
            refine zq_wg 2 (pc' := 81) (lv' := [some (.ref x32), some (.ref x33), some (.int x34), some (.int x35), some (.int x36), some (.int x36), none, none]) (st' := []) (h' := h37) rfl ?_
            exact kj81_30 x32 x33 x34 x35 x36 x36 h37 hf
          refine zr_if (x20 = (-1 : Int32)) 77 60 (st' := []) rfl rfl (fun b38 => ?_) (fun b38 => ?_)
          · have hf := zo_t hf b38
            refine zq_fg [some (.ref x16), some (.ref x17), some (.int x18), some (.int x19), none, some (.int x21), none, none] (zq_lvle_s (zq_lvle_s (zq_lvle_s (zq_lvle_s (zq_lvle_n (zq_lvle_s (zq_lvle_s (zq_lvle_n zq_lvle_nil)))))))) ?_
            exact kj77_37 x16 x17 x18 x19 x21 h23 hf
          · have hf := zo_f hf b38
            refine zq_wg 3 (pc' := 64) (lv' := [some (.ref x16), some (.ref x17), some (.int x18), some (.int x19), some (.int x20), some (.int x21), none, some (.int x22)]) (st' := [.int x21, .int x18, .ref x16]) (h' := h23) rfl ?_
            obtain ⟨e42, v40, h39, e41, hf⟩ := zo_v_s hf
            refine zr_cv zq_m115 [.int x18, .int x21] [] rfl rfl rfl rfl rfl (Nat.le_of_ble_eq_true rfl) (Nat.le_of_ble_eq_true rfl) e42 (zx_Army_likingOf_ok sc d (by omega) e41) ?_
            refine zq_wg 0 (pc' := 67) (lv' := [some (.ref x16), some (.ref x17), some (.int x18), some (.int x19), some (.int x20), some (.int x21), none, some (.int x22)]) (st' := [.int v40]) (h' := h39) rfl ?_
            refine zq_wg 3 (pc' := 71) (lv' := [some (.ref x16), some (.ref x17), some (.int x18), some (.int x19), some (.int x20), some (.int x21), none, some (.int x22)]) (st' := [.int x20, .int x18, .ref x16, .int v40]) (h' := h39) rfl ?_
            obtain ⟨e46, v44, h43, e45, hf⟩ := zo_v_s hf
            refine zr_cv zq_m115 [.int x18, .int x20] [.int v40] rfl rfl rfl rfl rfl (Nat.le_of_ble_eq_true rfl) (Nat.le_of_ble_eq_true rfl) e46 (zx_Army_likingOf_ok sc d (by omega) e45) ?_
            refine zq_wg 0 (pc' := 74) (lv' := [some (.ref x16), some (.ref x17), some (.int x18), some (.int x19), some (.int x20), some (.int x21), none, some (.int x22)]) (st' := [.int v44, .int v40]) (h' := h43) rfl ?_
            refine zr_if (v40 ≤ v44) 81 77 (st' := []) rfl rfl (fun b47 => ?_) (fun b47 => ?_)
            · have hf := zo_t hf b47
              refine zq_fg [some (.ref x16), some (.ref x17), some (.int x18), some (.int x19), some (.int x20), some (.int x21), none, none] (zq_lvle_s (zq_lvle_s (zq_lvle_s (zq_lvle_s (zq_lvle_s (zq_lvle_s (zq_lvle_s (zq_lvle_n zq_lvle_nil)))))))) ?_
              exact kj81_30 x16 x17 x18 x19 x20 x21 h43 hf
            · have hf := zo_f hf b47
              refine zq_fg [some (.ref x16), some (.ref x17), some (.int x18), some (.int x19), none, some (.int x21), none, none] (zq_lvle_s (zq_lvle_s (zq_lvle_s (zq_lvle_s (zq_lvle_n (zq_lvle_s (zq_lvle_s (zq_lvle_n zq_lvle_nil)))))))) ?_
              exact kj77_37 x16 x17 x18 x19 x21 h43 hf
      obtain ⟨j46_54, hjj46_54, hf⟩ := zo_lj hf
      have kj46_54 : ∀ (x48 : Nat) (x49 : Nat) (x50 : Int32) (x51 : Int32) (x52 : Int32) (x53 : Int32) (h54 : zH), j46_54 x48 x49 x50 x51 x52 x53 h54 = some (ro_, ho_) → zq_wp sc (d + 1) 114 46 [some (.ref x48), some (.ref x49), some (.int x50), some (.int x51), some (.int x52), some (.int x53), none, none] [] h54 (some (.int ro_), ho_) := by
        intro x48 x49 x50 x51 x52 x53 h54 hf
        rw [hjj46_54] at hf
        refine zq_wg 1 (pc' := 47) (lv' := [some (.ref x48), some (.ref x49), some (.int x50), some (.int x51), some (.int x52), some (.int x53), none, none]) (st' := [.int (0 : Int32)]) (h' := h54) rfl ?_
        exact kj47_23 x48 x49 x50 x51 x52 x53 (0 : Int32) h54 hf
      refine zr_if (v14 = (-1 : Int32)) 46 32 (st' := []) rfl rfl (fun b55 => ?_) (fun b55 => ?_)
      · have hf := zo_t hf b55
        refine zq_fg [some (.ref y1), some (.ref y2), some (.int y3), some (.int y4), some (.int y5), some (.int y6), none, none] (zq_lvle_s (zq_lvle_s (zq_lvle_s (zq_lvle_s (zq_lvle_s (zq_lvle_s (zq_lvle_n (zq_lvle_s zq_lvle_nil)))))))) ?_
        exact kj46_54 y1 y2 y3 y4 y5 y6 h13 hf
      · have hf := zo_f hf b55
        refine zq_wg 6 (pc' := 39) (lv' := [some (.ref y1), some (.ref y2), some (.int y3), some (.int y4), some (.int y5), some (.int y6), some (.int v14), none]) (st' := [.int (1 : Int32), .int ((y4 >>> (v14 &&& 31)) &&& (1 : Int32))]) (h' := h13) rfl ?_
        refine zr_if (((y4 >>> (v14 &&& 31)) &&& (1 : Int32)) = (1 : Int32)) 42 46 (st' := []) rfl rfl (fun b56 => ?_) (fun b56 => ?_)
        · have hf := zo_t hf b56
          refine zq_wg 2 (pc' := 47) (lv' := [some (.ref y1), some (.ref y2), some (.int y3), some (.int y4), some (.int y5), some (.int y6), some (.int v14), none]) (st' := [.int (1 : Int32)]) (h' := h13) rfl ?_
          refine zq_fg [some (.ref y1), some (.ref y2), some (.int y3), some (.int y4), some (.int y5), some (.int y6), none, none] (zq_lvle_s (zq_lvle_s (zq_lvle_s (zq_lvle_s (zq_lvle_s (zq_lvle_s (zq_lvle_n (zq_lvle_s zq_lvle_nil)))))))) ?_
          exact kj47_23 y1 y2 y3 y4 y5 y6 (1 : Int32) h13 hf
        · have hf := zo_f hf b56
          refine zq_fg [some (.ref y1), some (.ref y2), some (.int y3), some (.int y4), some (.int y5), some (.int y6), none, none] (zq_lvle_s (zq_lvle_s (zq_lvle_s (zq_lvle_s (zq_lvle_s (zq_lvle_s (zq_lvle_n (zq_lvle_s zq_lvle_nil)))))))) ?_
          exact kj46_54 y1 y2 y3 y4 y5 y6 h13 hf
set_option maxRecDepth 4000 in
theorem zx_Trade_likedBest_ok (sc : zX) (d : Nat) (hd : 2 ≤ d) {a0 : Nat} {a1 : Nat} {a2 : Int32} {a3 : Int32} {h : zH} {ro_ : Int32} {ho_ : zH} (hf : zx_Trade_likedBest sc a0 a1 a2 a3 h = some (ro_, ho_)) : zq_wm sc d 114 [.ref a0, .ref a1, .int a2, .int a3] h (some (.int ro_), ho_) := by
  unfold zx_Trade_likedBest at hf
  obtain ⟨d, rfl⟩ : ∃ d', d = d' + 1 := ⟨d - 1, by omega⟩
  have hd : 1 ≤ d := by omega
  show zq_wp sc (d + 1) 114 0 [some (.ref a0), some (.ref a1), some (.int a2), some (.int a3), none, none, none, none] [] h _
  refine zq_wg 4 (pc' := 6) (lv' := [some (.ref a0), some (.ref a1), some (.int a2), some (.int a3), some (.int (-1 : Int32)), some (.int (0 : Int32)), none, none]) (st' := []) (h' := h) rfl ?_
  refine zx_Trade_likedBest_l6_ok sc d hd zo_F a0 a1 a2 a3 (-1 : Int32) (0 : Int32) h _ _ hf
set_option maxRecDepth 4000 in
def zx_Trade_swapRing_l6 (sc : zX) : Nat → Nat → Nat → Nat → Int32 → Int32 → Int32 → zH → (Nat → Nat → Nat → Int32 → Int32 → zH → Option (Int32 × zH)) → Option (Int32 × zH)
  | 0, _, _, _, _, _, _, _, _ => none
  | n + 1, y1, y2, y3, y4, y5, y6, h7, k37 => if (6 : Int32) ≤ y6 then (k37 y1 y2 y3 y4 y5 h7) else (zo_b (zo_gR h7 4 y3 0) (fun v9 => zo_c (zx_Trade_likedBest sc y2 y3 y5 y4 h7) (fun v12 h11 => zo_c (zx_at sc v9 v12 h11) (fun v15 h14 => zx_Trade_swapRing_l6 sc n y1 y2 y3 y4 v15 (y6 + (1 : Int32)) h14 k37))))
set_option maxRecDepth 4000 in
def zx_Trade_swapRing_l44 (sc : zX) : Nat → Nat → Nat → Nat → Int32 → Int32 → Int32 → Int32 → zH → Option (Int32 × zH)
  | 0, _, _, _, _, _, _, _, _ => none
  | n + 1, y23, y24, y25, y26, y27, y28, y29, h30 => if (6 : Int32) ≤ y29 then (some (y28, h30)) else (if ((y28 >>> (y27 &&& 31)) &&& (1 : Int32)) = (1 : Int32) then (zo_c (zx_Trade_likedBest sc y24 y25 y27 y26 h30) (fun v34 h33 => zo_b (zo_gR h33 6 y23 0) (fun v36 => zo_c (zx_put sc v36 y27 v34 h33) (fun w39 h38 => zo_b (zo_gR h38 4 y25 0) (fun v41 => zo_c (zx_at sc v41 v34 h38) (fun v44 h43 => zx_Trade_swapRing_l44 sc n y23 y24 y25 y26 v44 (y28 &&& (((1 : Int32) <<< (y27 &&& 31)) ^^^ (-1 : Int32))) (y29 + (1 : Int32)) h43 )))))) else (some (y28, h30)))
set_option maxRecDepth 4000 in
def zx_Trade_swapRing (sc : zX) (a0 : Nat) (a1 : Nat) (a2 : Nat) (a3 : Int32) (a4 : Int32) (h : zH) : Option (Int32 × zH) := zx_Trade_swapRing_l6 sc zo_F a0 a1 a2 a4 a3 (0 : Int32) h (fun (x17 : Nat) (x18 : Nat) (x19 : Nat) (x20 : Int32) (x21 : Int32) (h22 : zH) => zx_Trade_swapRing_l44 sc zo_F x17 x18 x19 x20 x21 x20 (0 : Int32) h22 )
set_option maxRecDepth 4000 in
theorem zx_Trade_swapRing_l6_ok (sc : zX) (d : Nat) (hd : 2 ≤ d) : ∀ (n : Nat) (y1 : Nat) (y2 : Nat) (y3 : Nat) (y4 : Int32) (y5 : Int32) (y6 : Int32) (h7 : zH) (k37 : Nat → Nat → Nat → Int32 → Int32 → zH → Option (Int32 × zH)) (ro_ : Int32) (ho_ : zH), (∀ (z0 : Nat) (z1 : Nat) (z2 : Nat) (z3 : Int32) (z4 : Int32) (hz : zH), k37 z0 z1 z2 z3 z4 hz = some (ro_, ho_) → zq_wp sc (d + 1) 113 37 [some (.ref z0), some (.ref z1), some (.ref z2), none, some (.int z3), some (.int z4), none, none, none] [] hz (some (.int ro_), ho_)) → zx_Trade_swapRing_l6 sc n y1 y2 y3 y4 y5 y6 h7 k37 = some (ro_, ho_) → zq_wp sc (d + 1) 113 6 [some (.ref y1), some (.ref y2), some (.ref y3), none, some (.int y4), some (.int y5), some (.int y6), none, none] [] h7 (some (.int ro_), ho_) := by
  intro n
  induction n with
  | zero => intro y1 y2 y3 y4 y5 y6 h7 k37 ro_ ho_ hk37 hf; cases hf
  | succ n ih =>
    intro y1 y2 y3 y4 y5 y6 h7 k37 ro_ ho_ hk37 hf
    refine zq_wg 2 (pc' := 10) (lv' := [some (.ref y1), some (.ref y2), some (.ref y3), none, some (.int y4), some (.int y5), some (.int y6), none, none]) (st' := [.int (6 : Int32), .int y6]) (h' := h7) rfl ?_
    refine zr_if ((6 : Int32) ≤ y6) 37 13 (st' := []) rfl rfl (fun b8 => ?_) (fun b8 => ?_)
    · have hf := zo_t hf b8
      refine zq_fg [some (.ref y1), some (.ref y2), some (.ref y3), none, some (.int y4), some (.int y5), none, none, none] (zq_lvle_s (zq_lvle_s (zq_lvle_s (zq_lvle_s (zq_lvle_s (zq_lvle_s (zq_lvle_n (zq_lvle_s (zq_lvle_s zq_lvle_nil))))))))) ?_
      exact hk37 y1 y2 y3 y4 y5 h7 hf
    · have hf := zo_f hf b8
      refine zq_wg 1 (pc' := 14) (lv' := [some (.ref y1), some (.ref y2), some (.ref y3), none, some (.int y4), some (.int y5), some (.int y6), none, none]) (st' := [.ref y3]) (h' := h7) rfl ?_
      obtain ⟨v9, e10, hf⟩ := zo_b_s hf
      refine zr_gR rfl rfl (by decide) rfl e10 ?_
      refine zq_wg 4 (pc' := 23) (lv' := [some (.ref y1), some (.ref y2), some (.ref y3), none, some (.int y4), some (.int y5), some (.int y6), none, none]) (st' := [.int y4, .int y5, .ref y3, .ref y2, .ref v9]) (h' := h7) rfl ?_
      obtain ⟨v12, h11, e13, hf⟩ := zo_c_s hf
      refine zr_cs zq_m114 [.ref y2, .ref y3, .int y5, .int y4] [.ref v9] rfl rfl (by decide) rfl rfl rfl (Nat.le_of_ble_eq_true rfl) (Nat.le_of_ble_eq_true rfl) (zx_Trade_likedBest_ok sc d (by omega) e13) ?_
      refine zq_wg 0 (pc' := 26) (lv' := [some (.ref y1), some (.ref y2), some (.ref y3), none, some (.int y4), some (.int y5), some (.int y6), none, none]) (st' := [.int v12, .ref v9]) (h' := h11) rfl ?_
      obtain ⟨v15, h14, e16, hf⟩ := zo_c_s hf
      refine zr_cs zq_m12 [.ref v9, .int v12] [] rfl rfl (by decide) rfl rfl rfl (Nat.le_of_ble_eq_true rfl) (Nat.le_of_ble_eq_true rfl) (zx_at_ok sc d (by omega) e16) ?_
      refine zq_wg 0 (pc' := 29) (lv' := [some (.ref y1), some (.ref y2), some (.ref y3), none, some (.int y4), some (.int y5), some (.int y6), none, none]) (st' := [.int v15]) (h' := h14) rfl ?_
      refine zq_wg 3 (pc' := 6) (lv' := [some (.ref y1), some (.ref y2), some (.ref y3), none, some (.int y4), some (.int v15), some (.int (y6 + (1 : Int32))), none, none]) (st' := []) (h' := h14) rfl ?_
      exact ih y1 y2 y3 y4 v15 (y6 + (1 : Int32)) h14 _ _ _ hk37 hf
set_option maxRecDepth 4000 in
theorem zx_Trade_swapRing_l44_ok (sc : zX) (d : Nat) (hd : 2 ≤ d) : ∀ (n : Nat) (y23 : Nat) (y24 : Nat) (y25 : Nat) (y26 : Int32) (y27 : Int32) (y28 : Int32) (y29 : Int32) (h30 : zH) (ro_ : Int32) (ho_ : zH),  zx_Trade_swapRing_l44 sc n y23 y24 y25 y26 y27 y28 y29 h30  = some (ro_, ho_) → zq_wp sc (d + 1) 113 44 [some (.ref y23), some (.ref y24), some (.ref y25), none, some (.int y26), some (.int y27), some (.int y28), some (.int y29), none] [] h30 (some (.int ro_), ho_) := by
  intro n
  induction n with
  | zero => intro y23 y24 y25 y26 y27 y28 y29 h30 ro_ ho_ hf; cases hf
  | succ n ih =>
    intro y23 y24 y25 y26 y27 y28 y29 h30 ro_ ho_ hf
    refine zq_wg 2 (pc' := 48) (lv' := [some (.ref y23), some (.ref y24), some (.ref y25), none, some (.int y26), some (.int y27), some (.int y28), some (.int y29), none]) (st' := [.int (6 : Int32), .int y29]) (h' := h30) rfl ?_
    refine zr_if ((6 : Int32) ≤ y29) 112 51 (st' := []) rfl rfl (fun b31 => ?_) (fun b31 => ?_)
    · have hf := zo_t hf b31
      refine zq_wg 1 (pc' := 114) (lv' := [some (.ref y23), some (.ref y24), some (.ref y25), none, some (.int y26), some (.int y27), some (.int y28), some (.int y29), none]) (st' := [.int y28]) (h' := h30) rfl ?_
      exact zr_ri rfl rfl rfl hf
    · have hf := zo_f hf b31
      refine zq_wg 6 (pc' := 59) (lv' := [some (.ref y23), some (.ref y24), some (.ref y25), none, some (.int y26), some (.int y27), some (.int y28), some (.int y29), none]) (st' := [.int (1 : Int32), .int ((y28 >>> (y27 &&& 31)) &&& (1 : Int32))]) (h' := h30) rfl ?_
      refine zr_if (((y28 >>> (y27 &&& 31)) &&& (1 : Int32)) = (1 : Int32)) 62 112 (st' := []) rfl rfl (fun b32 => ?_) (fun b32 => ?_)
      · have hf := zo_t hf b32
        refine zq_wg 4 (pc' := 68) (lv' := [some (.ref y23), some (.ref y24), some (.ref y25), none, some (.int y26), some (.int y27), some (.int y28), some (.int y29), none]) (st' := [.int y26, .int y27, .ref y25, .ref y24]) (h' := h30) rfl ?_
        obtain ⟨v34, h33, e35, hf⟩ := zo_c_s hf
        refine zr_cs zq_m114 [.ref y24, .ref y25, .int y27, .int y26] [] rfl rfl (by decide) rfl rfl rfl (Nat.le_of_ble_eq_true rfl) (Nat.le_of_ble_eq_true rfl) (zx_Trade_likedBest_ok sc d (by omega) e35) ?_
        refine zq_wg 0 (pc' := 71) (lv' := [some (.ref y23), some (.ref y24), some (.ref y25), none, some (.int y26), some (.int y27), some (.int y28), some (.int y29), none]) (st' := [.int v34]) (h' := h33) rfl ?_
        refine zq_wg 2 (pc' := 74) (lv' := [some (.ref y23), some (.ref y24), some (.ref y25), none, some (.int y26), some (.int y27), some (.int y28), some (.int y29), some (.int v34)]) (st' := [.ref y23]) (h' := h33) rfl ?_
        obtain ⟨v36, e37, hf⟩ := zo_b_s hf
        refine zr_gR rfl rfl (by decide) rfl e37 ?_
        refine zq_wg 2 (pc' := 81) (lv' := [some (.ref y23), some (.ref y24), some (.ref y25), none, some (.int y26), some (.int y27), some (.int y28), some (.int y29), some (.int v34)]) (st' := [.int v34, .int y27, .ref v36]) (h' := h33) rfl ?_
        obtain ⟨w39, h38, e40, hf⟩ := zo_c_s hf
        refine zr_cs zq_m11 [.ref v36, .int y27, .int v34] [] rfl rfl (by decide) rfl rfl rfl (Nat.le_of_ble_eq_true rfl) (Nat.le_of_ble_eq_true rfl) (zx_put_ok sc d (by omega) e40) ?_
        refine zq_wg 0 (pc' := 84) (lv' := [some (.ref y23), some (.ref y24), some (.ref y25), none, some (.int y26), some (.int y27), some (.int y28), some (.int y29), some (.int v34)]) (st' := []) (h' := h38) rfl ?_
        refine zq_wg 9 (pc' := 96) (lv' := [some (.ref y23), some (.ref y24), some (.ref y25), none, some (.int y26), some (.int y27), some (.int (y28 &&& (((1 : Int32) <<< (y27 &&& 31)) ^^^ (-1 : Int32)))), some (.int y29), some (.int v34)]) (st' := [.ref y25]) (h' := h38) rfl ?_
        obtain ⟨v41, e42, hf⟩ := zo_b_s hf
        refine zr_gR rfl rfl (by decide) rfl e42 ?_
        refine zq_wg 1 (pc' := 101) (lv' := [some (.ref y23), some (.ref y24), some (.ref y25), none, some (.int y26), some (.int y27), some (.int (y28 &&& (((1 : Int32) <<< (y27 &&& 31)) ^^^ (-1 : Int32)))), some (.int y29), some (.int v34)]) (st' := [.int v34, .ref v41]) (h' := h38) rfl ?_
        obtain ⟨v44, h43, e45, hf⟩ := zo_c_s hf
        refine zr_cs zq_m12 [.ref v41, .int v34] [] rfl rfl (by decide) rfl rfl rfl (Nat.le_of_ble_eq_true rfl) (Nat.le_of_ble_eq_true rfl) (zx_at_ok sc d (by omega) e45) ?_
        refine zq_wg 0 (pc' := 104) (lv' := [some (.ref y23), some (.ref y24), some (.ref y25), none, some (.int y26), some (.int y27), some (.int (y28 &&& (((1 : Int32) <<< (y27 &&& 31)) ^^^ (-1 : Int32)))), some (.int y29), some (.int v34)]) (st' := [.int v44]) (h' := h43) rfl ?_
        refine zq_wg 3 (pc' := 44) (lv' := [some (.ref y23), some (.ref y24), some (.ref y25), none, some (.int y26), some (.int v44), some (.int (y28 &&& (((1 : Int32) <<< (y27 &&& 31)) ^^^ (-1 : Int32)))), some (.int (y29 + (1 : Int32))), some (.int v34)]) (st' := []) (h' := h43) rfl ?_
        refine zq_fg [some (.ref y23), some (.ref y24), some (.ref y25), none, some (.int y26), some (.int v44), some (.int (y28 &&& (((1 : Int32) <<< (y27 &&& 31)) ^^^ (-1 : Int32)))), some (.int (y29 + (1 : Int32))), none] (zq_lvle_s (zq_lvle_s (zq_lvle_s (zq_lvle_s (zq_lvle_s (zq_lvle_s (zq_lvle_s (zq_lvle_s (zq_lvle_n zq_lvle_nil))))))))) ?_
        exact ih y23 y24 y25 y26 v44 (y28 &&& (((1 : Int32) <<< (y27 &&& 31)) ^^^ (-1 : Int32))) (y29 + (1 : Int32)) h43 _ _ hf
      · have hf := zo_f hf b32
        refine zq_wg 1 (pc' := 114) (lv' := [some (.ref y23), some (.ref y24), some (.ref y25), none, some (.int y26), some (.int y27), some (.int y28), some (.int y29), none]) (st' := [.int y28]) (h' := h30) rfl ?_
        exact zr_ri rfl rfl rfl hf
set_option maxRecDepth 4000 in
theorem zx_Trade_swapRing_ok (sc : zX) (d : Nat) (hd : 3 ≤ d) {a0 : Nat} {a1 : Nat} {a2 : Nat} {a3 : Int32} {a4 : Int32} {h : zH} {ro_ : Int32} {ho_ : zH} (hf : zx_Trade_swapRing sc a0 a1 a2 a3 a4 h = some (ro_, ho_)) : zq_wm sc d 113 [.ref a0, .ref a1, .ref a2, .int a3, .int a4] h (some (.int ro_), ho_) := by
  unfold zx_Trade_swapRing at hf
  obtain ⟨d, rfl⟩ : ∃ d', d = d' + 1 := ⟨d - 1, by omega⟩
  have hd : 2 ≤ d := by omega
  show zq_wp sc (d + 1) 113 0 [some (.ref a0), some (.ref a1), some (.ref a2), some (.int a3), some (.int a4), none, none, none, none] [] h _
  refine zq_wg 4 (pc' := 6) (lv' := [some (.ref a0), some (.ref a1), some (.ref a2), some (.int a3), some (.int a4), some (.int a3), some (.int (0 : Int32)), none, none]) (st' := []) (h' := h) rfl ?_
  refine zq_fg [some (.ref a0), some (.ref a1), some (.ref a2), none, some (.int a4), some (.int a3), some (.int (0 : Int32)), none, none] (zq_lvle_s (zq_lvle_s (zq_lvle_s (zq_lvle_n (zq_lvle_s (zq_lvle_s (zq_lvle_s (zq_lvle_s (zq_lvle_s zq_lvle_nil))))))))) ?_
  refine zx_Trade_swapRing_l6_ok sc d hd zo_F a0 a1 a2 a4 a3 (0 : Int32) h _ _ _ ?_ hf
  · intro x17 x18 x19 x20 x21 h22 hf
    refine zq_wg 4 (pc' := 44) (lv' := [some (.ref x17), some (.ref x18), some (.ref x19), none, some (.int x20), some (.int x21), some (.int x20), some (.int (0 : Int32)), none]) (st' := []) (h' := h22) rfl ?_
    refine zx_Trade_swapRing_l44_ok sc d hd zo_F x17 x18 x19 x20 x21 x20 (0 : Int32) h22 _ _ hf
set_option maxRecDepth 4000 in
def zx_Trade_swapAll_l5 (sc : zX) : Nat → Nat → Nat → Nat → Int32 → Int32 → zH → (Nat → Nat → Nat → Int32 → zH → Option (Unit × zH)) → Option (Unit × zH)
  | 0, _, _, _, _, _, _, _ => none
  | n + 1, y1, y2, y3, y4, y5, h6, k47 => zo_b (zo_gI h6 0 y2 1) (fun v7 => if v7 ≤ y5 then (k47 y1 y2 y3 y4 h6) else (zo_b (zo_gR h6 6 y1 0) (fun v10 => zo_c (zx_put sc v10 y5 (-1 : Int32) h6) (fun w13 h12 => zo_v h12 y3 4 (zx_State_postOf sc y3 y5 h12) (fun v16 h15 => zo_l (fun (x19 : Nat) (x20 : Nat) (x21 : Nat) (x22 : Int32) (x23 : Int32) (h24 : zH) => zx_Trade_swapAll_l5 sc n x19 x20 x21 x22 (x23 + (1 : Int32)) h24 k47) (fun j41_24 => if v16 = (-1 : Int32) then (j41_24 y1 y2 y3 y4 y5 h15) else (j41_24 y1 y2 y3 (y4 ||| ((1 : Int32) <<< (y5 &&& 31))) y5 h15)))))))
set_option maxRecDepth 4000 in
def zx_Trade_swapAll_l63 (sc : zX) : Nat → Nat → Nat → Nat → Int32 → Int32 → Int32 → zH → (Nat → Nat → Nat → Int32 → Int32 → zH → Option (Unit × zH)) → Option (Unit × zH)
  | 0, _, _, _, _, _, _, _, _ => none
  | n + 1, y40, y41, y42, y43, y44, y45, h46, k94 => if y45 ≤ 0 then (k94 y40 y41 y42 y43 y44 h46) else (if ((y43 >>> (y44 &&& 31)) &&& (1 : Int32)) = (1 : Int32) then (zo_v h46 y40 6 (zx_Trade_swapRing sc y40 y41 y42 y44 y43 h46) (fun v50 h49 => zx_Trade_swapAll_l63 sc n y40 y41 y42 v50 y44 (y45 + (-1 : Int32)) h49 k94)) else (k94 y40 y41 y42 y43 y44 h46))
set_option maxRecDepth 4000 in
def zx_Trade_swapAll_l50 (sc : zX) : Nat → Nat → Nat → Nat → Int32 → Int32 → zH → Option (Unit × zH)
  | 0, _, _, _, _, _, _ => none
  | n + 1, y31, y32, y33, y34, y35, h36 => zo_b (zo_gI h36 0 y32 1) (fun v37 => if v37 ≤ y35 then (some ((), h36)) else (zx_Trade_swapAll_l63 sc zo_F y31 y32 y33 y34 y35 (6 : Int32) h36 (fun (x53 : Nat) (x54 : Nat) (x55 : Nat) (x56 : Int32) (x57 : Int32) (h58 : zH) => zx_Trade_swapAll_l50 sc n x53 x54 x55 x56 (x57 + (1 : Int32)) h58 )))
set_option maxRecDepth 4000 in
def zx_Trade_swapAll (sc : zX) (a0 : Nat) (a1 : Nat) (a2 : Nat) (h : zH) : Option (Unit × zH) := zx_Trade_swapAll_l5 sc zo_F a0 a1 a2 (0 : Int32) (0 : Int32) h (fun (x26 : Nat) (x27 : Nat) (x28 : Nat) (x29 : Int32) (h30 : zH) => zx_Trade_swapAll_l50 sc zo_F x26 x27 x28 x29 (0 : Int32) h30 )
set_option maxRecDepth 4000 in
theorem zx_Trade_swapAll_l5_ok (sc : zX) (d : Nat) (hd : 3 ≤ d) : ∀ (n : Nat) (y1 : Nat) (y2 : Nat) (y3 : Nat) (y4 : Int32) (y5 : Int32) (h6 : zH) (k47 : Nat → Nat → Nat → Int32 → zH → Option (Unit × zH)) (ro_ : Unit) (ho_ : zH), (∀ (z0 : Nat) (z1 : Nat) (z2 : Nat) (z3 : Int32) (hz : zH), k47 z0 z1 z2 z3 hz = some (ro_, ho_) → zq_wp sc (d + 1) 112 47 [some (.ref z0), some (.ref z1), some (.ref z2), some (.int z3), none, none] [] hz (none, ho_)) → zx_Trade_swapAll_l5 sc n y1 y2 y3 y4 y5 h6 k47 = some (ro_, ho_) → zq_wp sc (d + 1) 112 5 [some (.ref y1), some (.ref y2), some (.ref y3), some (.int y4), some (.int y5), none] [] h6 (none, ho_) := by
  intro n
  induction n with
  | zero => intro y1 y2 y3 y4 y5 h6 k47 ro_ ho_ hk47 hf; cases hf
  | succ n ih =>
    intro y1 y2 y3 y4 y5 h6 k47 ro_ ho_ hk47 hf
    refine zq_wg 2 (pc' := 8) (lv' := [some (.ref y1), some (.ref y2), some (.ref y3), some (.int y4), some (.int y5), none]) (st' := [.ref y2, .int y5]) (h' := h6) rfl ?_
    obtain ⟨v7, e8, hf⟩ := zo_b_s hf
    refine zr_gI rfl rfl (by decide) rfl e8 ?_
    refine zr_if (v7 ≤ y5) 47 14 (st' := []) rfl rfl (fun b9 => ?_) (fun b9 => ?_)
    · have hf := zo_t hf b9
      refine zq_fg [some (.ref y1), some (.ref y2), some (.ref y3), some (.int y4), none, none] (zq_lvle_s (zq_lvle_s (zq_lvle_s (zq_lvle_s (zq_lvle_n (zq_lvle_s zq_lvle_nil)))))) ?_
      exact hk47 y1 y2 y3 y4 h6 hf
    · have hf := zo_f hf b9
      refine zq_wg 1 (pc' := 15) (lv' := [some (.ref y1), some (.ref y2), some (.ref y3), some (.int y4), some (.int y5), none]) (st' := [.ref y1]) (h' := h6) rfl ?_
      obtain ⟨v10, e11, hf⟩ := zo_b_s hf
      refine zr_gR rfl rfl (by decide) rfl e11 ?_
      refine zq_wg 2 (pc' := 21) (lv' := [some (.ref y1), some (.ref y2), some (.ref y3), some (.int y4), some (.int y5), none]) (st' := [.int (-1 : Int32), .int y5, .ref v10]) (h' := h6) rfl ?_
      obtain ⟨w13, h12, e14, hf⟩ := zo_c_s hf
      refine zr_cs zq_m11 [.ref v10, .int y5, .int (-1 : Int32)] [] rfl rfl (by decide) rfl rfl rfl (Nat.le_of_ble_eq_true rfl) (Nat.le_of_ble_eq_true rfl) (zx_put_ok sc d (by omega) e14) ?_
      refine zq_wg 0 (pc' := 24) (lv' := [some (.ref y1), some (.ref y2), some (.ref y3), some (.int y4), some (.int y5), none]) (st' := []) (h' := h12) rfl ?_
      refine zq_wg 2 (pc' := 27) (lv' := [some (.ref y1), some (.ref y2), some (.ref y3), some (.int y4), some (.int y5), none]) (st' := [.int y5, .ref y3]) (h' := h12) rfl ?_
      obtain ⟨e18, v16, h15, e17, hf⟩ := zo_v_s hf
      refine zr_cv zq_m71 [.int y5] [] rfl rfl rfl rfl rfl (Nat.le_of_ble_eq_true rfl) (Nat.le_of_ble_eq_true rfl) e18 (zx_State_postOf_ok sc d (by omega) e17) ?_
      refine zq_wg 0 (pc' := 30) (lv' := [some (.ref y1), some (.ref y2), some (.ref y3), some (.int y4), some (.int y5), none]) (st' := [.int v16]) (h' := h15) rfl ?_
      refine zq_wg 1 (pc' := 31) (lv' := [some (.ref y1), some (.ref y2), some (.ref y3), some (.int y4), some (.int y5), none]) (st' := [.int (-1 : Int32), .int v16]) (h' := h15) rfl ?_
      obtain ⟨j41_24, hjj41_24, hf⟩ := zo_lj hf
      have kj41_24 : ∀ (x19 : Nat) (x20 : Nat) (x21 : Nat) (x22 : Int32) (x23 : Int32) (h24 : zH), j41_24 x19 x20 x21 x22 x23 h24 = some (ro_, ho_) → zq_wp sc (d + 1) 112 41 [some (.ref x19), some (.ref x20), some (.ref x21), some (.int x22), some (.int x23), none] [] h24 (none, ho_) := by
        intro x19 x20 x21 x22 x23 h24 hf
        rw [hjj41_24] at hf
        refine zq_wg 2 (pc' := 5) (lv' := [some (.ref x19), some (.ref x20), some (.ref x21), some (.int x22), some (.int (x23 + (1 : Int32))), none]) (st' := []) (h' := h24) rfl ?_
        exact ih x19 x20 x21 x22 (x23 + (1 : Int32)) h24 _ _ _ hk47 hf
      refine zr_if (v16 = (-1 : Int32)) 41 34 (st' := []) rfl rfl (fun b25 => ?_) (fun b25 => ?_)
      · have hf := zo_t hf b25
        exact kj41_24 y1 y2 y3 y4 y5 h15 hf
      · have hf := zo_f hf b25
        refine zq_wg 6 (pc' := 41) (lv' := [some (.ref y1), some (.ref y2), some (.ref y3), some (.int (y4 ||| ((1 : Int32) <<< (y5 &&& 31)))), some (.int y5), none]) (st' := []) (h' := h15) rfl ?_
        exact kj41_24 y1 y2 y3 (y4 ||| ((1 : Int32) <<< (y5 &&& 31))) y5 h15 hf
set_option maxRecDepth 4000 in
theorem zx_Trade_swapAll_l63_ok (sc : zX) (d : Nat) (hd : 3 ≤ d) : ∀ (n : Nat) (y40 : Nat) (y41 : Nat) (y42 : Nat) (y43 : Int32) (y44 : Int32) (y45 : Int32) (h46 : zH) (k94 : Nat → Nat → Nat → Int32 → Int32 → zH → Option (Unit × zH)) (ro_ : Unit) (ho_ : zH), (∀ (z0 : Nat) (z1 : Nat) (z2 : Nat) (z3 : Int32) (z4 : Int32) (hz : zH), k94 z0 z1 z2 z3 z4 hz = some (ro_, ho_) → zq_wp sc (d + 1) 112 94 [some (.ref z0), some (.ref z1), some (.ref z2), some (.int z3), some (.int z4), none] [] hz (none, ho_)) → zx_Trade_swapAll_l63 sc n y40 y41 y42 y43 y44 y45 h46 k94 = some (ro_, ho_) → zq_wp sc (d + 1) 112 63 [some (.ref y40), some (.ref y41), some (.ref y42), some (.int y43), some (.int y44), some (.int y45)] [] h46 (none, ho_) := by
  intro n
  induction n with
  | zero => intro y40 y41 y42 y43 y44 y45 h46 k94 ro_ ho_ hk94 hf; cases hf
  | succ n ih =>
    intro y40 y41 y42 y43 y44 y45 h46 k94 ro_ ho_ hk94 hf
    refine zq_wg 1 (pc' := 65) (lv' := [some (.ref y40), some (.ref y41), some (.ref y42), some (.int y43), some (.int y44), some (.int y45)]) (st' := [.int y45]) (h' := h46) rfl ?_
    refine zr_if (y45 ≤ 0) 94 68 (st' := []) rfl rfl (fun b47 => ?_) (fun b47 => ?_)
    · have hf := zo_t hf b47
      refine zq_fg [some (.ref y40), some (.ref y41), some (.ref y42), some (.int y43), some (.int y44), none] (zq_lvle_s (zq_lvle_s (zq_lvle_s (zq_lvle_s (zq_lvle_s (zq_lvle_n zq_lvle_nil)))))) ?_
      exact hk94 y40 y41 y42 y43 y44 h46 hf
    · have hf := zo_f hf b47
      refine zq_wg 6 (pc' := 75) (lv' := [some (.ref y40), some (.ref y41), some (.ref y42), some (.int y43), some (.int y44), some (.int y45)]) (st' := [.int (1 : Int32), .int ((y43 >>> (y44 &&& 31)) &&& (1 : Int32))]) (h' := h46) rfl ?_
      refine zr_if (((y43 >>> (y44 &&& 31)) &&& (1 : Int32)) = (1 : Int32)) 78 94 (st' := []) rfl rfl (fun b48 => ?_) (fun b48 => ?_)
      · have hf := zo_t hf b48
        refine zq_wg 5 (pc' := 84) (lv' := [some (.ref y40), some (.ref y41), some (.ref y42), some (.int y43), some (.int y44), some (.int y45)]) (st' := [.int y43, .int y44, .ref y42, .ref y41, .ref y40]) (h' := h46) rfl ?_
        obtain ⟨e52, v50, h49, e51, hf⟩ := zo_v_s hf
        refine zr_cv zq_m113 [.ref y41, .ref y42, .int y44, .int y43] [] rfl rfl rfl rfl rfl (Nat.le_of_ble_eq_true rfl) (Nat.le_of_ble_eq_true rfl) e52 (zx_Trade_swapRing_ok sc d (by omega) e51) ?_
        refine zq_wg 0 (pc' := 87) (lv' := [some (.ref y40), some (.ref y41), some (.ref y42), some (.int y43), some (.int y44), some (.int y45)]) (st' := [.int v50]) (h' := h49) rfl ?_
        refine zq_wg 3 (pc' := 63) (lv' := [some (.ref y40), some (.ref y41), some (.ref y42), some (.int v50), some (.int y44), some (.int (y45 + (-1 : Int32)))]) (st' := []) (h' := h49) rfl ?_
        exact ih y40 y41 y42 v50 y44 (y45 + (-1 : Int32)) h49 _ _ _ hk94 hf
      · have hf := zo_f hf b48
        refine zq_fg [some (.ref y40), some (.ref y41), some (.ref y42), some (.int y43), some (.int y44), none] (zq_lvle_s (zq_lvle_s (zq_lvle_s (zq_lvle_s (zq_lvle_s (zq_lvle_n zq_lvle_nil)))))) ?_
        exact hk94 y40 y41 y42 y43 y44 h46 hf
set_option maxRecDepth 4000 in
theorem zx_Trade_swapAll_l50_ok (sc : zX) (d : Nat) (hd : 3 ≤ d) : ∀ (n : Nat) (y31 : Nat) (y32 : Nat) (y33 : Nat) (y34 : Int32) (y35 : Int32) (h36 : zH) (ro_ : Unit) (ho_ : zH),  zx_Trade_swapAll_l50 sc n y31 y32 y33 y34 y35 h36  = some (ro_, ho_) → zq_wp sc (d + 1) 112 50 [some (.ref y31), some (.ref y32), some (.ref y33), some (.int y34), some (.int y35), none] [] h36 (none, ho_) := by
  intro n
  induction n with
  | zero => intro y31 y32 y33 y34 y35 h36 ro_ ho_ hf; cases hf
  | succ n ih =>
    intro y31 y32 y33 y34 y35 h36 ro_ ho_ hf
    refine zq_wg 2 (pc' := 53) (lv' := [some (.ref y31), some (.ref y32), some (.ref y33), some (.int y34), some (.int y35), none]) (st' := [.ref y32, .int y35]) (h' := h36) rfl ?_
    obtain ⟨v37, e38, hf⟩ := zo_b_s hf
    refine zr_gI rfl rfl (by decide) rfl e38 ?_
    refine zr_if (v37 ≤ y35) 100 59 (st' := []) rfl rfl (fun b39 => ?_) (fun b39 => ?_)
    · have hf := zo_t hf b39
      exact zr_rv rfl rfl hf
    · have hf := zo_f hf b39
      refine zq_wg 2 (pc' := 63) (lv' := [some (.ref y31), some (.ref y32), some (.ref y33), some (.int y34), some (.int y35), some (.int (6 : Int32))]) (st' := []) (h' := h36) rfl ?_
      refine zx_Trade_swapAll_l63_ok sc d hd zo_F y31 y32 y33 y34 y35 (6 : Int32) h36 _ _ _ ?_ hf
      · intro x53 x54 x55 x56 x57 h58 hf
        refine zq_wg 2 (pc' := 50) (lv' := [some (.ref x53), some (.ref x54), some (.ref x55), some (.int x56), some (.int (x57 + (1 : Int32))), none]) (st' := []) (h' := h58) rfl ?_
        exact ih x53 x54 x55 x56 (x57 + (1 : Int32)) h58 _ _ hf
set_option maxRecDepth 4000 in
theorem zx_Trade_swapAll_ok (sc : zX) (d : Nat) (hd : 4 ≤ d) {a0 : Nat} {a1 : Nat} {a2 : Nat} {h : zH} {ro_ : Unit} {ho_ : zH} (hf : zx_Trade_swapAll sc a0 a1 a2 h = some (ro_, ho_)) : zq_wm sc d 112 [.ref a0, .ref a1, .ref a2] h (none, ho_) := by
  unfold zx_Trade_swapAll at hf
  obtain ⟨d, rfl⟩ : ∃ d', d = d' + 1 := ⟨d - 1, by omega⟩
  have hd : 3 ≤ d := by omega
  show zq_wp sc (d + 1) 112 0 [some (.ref a0), some (.ref a1), some (.ref a2), none, none, none] [] h _
  refine zq_wg 4 (pc' := 5) (lv' := [some (.ref a0), some (.ref a1), some (.ref a2), some (.int (0 : Int32)), some (.int (0 : Int32)), none]) (st' := []) (h' := h) rfl ?_
  refine zx_Trade_swapAll_l5_ok sc d hd zo_F a0 a1 a2 (0 : Int32) (0 : Int32) h _ _ _ ?_ hf
  · intro x26 x27 x28 x29 h30 hf
    refine zq_wg 2 (pc' := 50) (lv' := [some (.ref x26), some (.ref x27), some (.ref x28), some (.int x29), some (.int (0 : Int32)), none]) (st' := []) (h' := h30) rfl ?_
    refine zx_Trade_swapAll_l50_ok sc d hd zo_F x26 x27 x28 x29 (0 : Int32) h30 _ _ hf
set_option maxRecDepth 4000 in
def zx_swaps (sc : zX) (a0 : Nat) (a1 : Int32) (h : zH) : Option (Int32 × zH) := zo_b (zo_gR h 9 a0 11) (fun v1 => zo_v h v1 0 (zx_Army_hasMan sc v1 a1 h) (fun v4 h3 => if v4 = 0 then (some ((-2 : Int32), h3)) else (zo_b (zo_gR h3 9 a0 5) (fun v8 => zo_b (zo_gR h3 9 a0 11) (fun v10 => zo_b (zo_gR h3 9 a0 1) (fun v12 => zo_v h3 v8 6 (zx_Trade_swapAll sc v8 v10 v12 h3) (fun w15 h14 => zo_b (zo_gR h14 9 a0 5) (fun v18 => zo_b (zo_gR h14 6 v18 0) (fun v20 => zo_c (zx_at sc v20 a1 h14) (fun v23 h22 => some (v23, h22)))))))))))
set_option maxRecDepth 4000 in
theorem zx_swaps_ok (sc : zX) (d : Nat) (hd : 5 ≤ d) {a0 : Nat} {a1 : Int32} {h : zH} {ro_ : Int32} {ho_ : zH} (hf : zx_swaps sc a0 a1 h = some (ro_, ho_)) : zq_wm sc d 111 [.ref a0, .int a1] h (some (.int ro_), ho_) := by
  unfold zx_swaps at hf
  obtain ⟨d, rfl⟩ : ∃ d', d = d' + 1 := ⟨d - 1, by omega⟩
  have hd : 4 ≤ d := by omega
  show zq_wp sc (d + 1) 111 0 [some (.ref a0), some (.int a1)] [] h _
  refine zq_wg 1 (pc' := 1) (lv' := [some (.ref a0), some (.int a1)]) (st' := [.ref a0]) (h' := h) rfl ?_
  obtain ⟨v1, e2, hf⟩ := zo_b_s hf
  refine zr_gR rfl rfl (by decide) rfl e2 ?_
  refine zq_wg 1 (pc' := 5) (lv' := [some (.ref a0), some (.int a1)]) (st' := [.int a1, .ref v1]) (h' := h) rfl ?_
  obtain ⟨e6, v4, h3, e5, hf⟩ := zo_v_s hf
  refine zr_cv zq_m69 [.int a1] [] rfl rfl rfl rfl rfl (Nat.le_of_ble_eq_true rfl) (Nat.le_of_ble_eq_true rfl) e6 (zx_Army_hasMan_ok sc d (by omega) e5) ?_
  refine zq_wg 0 (pc' := 8) (lv' := [some (.ref a0), some (.int a1)]) (st' := [.int v4]) (h' := h3) rfl ?_
  refine zr_if (v4 = 0) 11 14 (st' := []) rfl rfl (fun b7 => ?_) (fun b7 => ?_)
  · have hf := zo_t hf b7
    refine zq_wg 1 (pc' := 13) (lv' := [some (.ref a0), some (.int a1)]) (st' := [.int (-2 : Int32)]) (h' := h3) rfl ?_
    exact zr_ri rfl rfl rfl hf
  · have hf := zo_f hf b7
    refine zq_wg 1 (pc' := 15) (lv' := [some (.ref a0), some (.int a1)]) (st' := [.ref a0]) (h' := h3) rfl ?_
    obtain ⟨v8, e9, hf⟩ := zo_b_s hf
    refine zr_gR rfl rfl (by decide) rfl e9 ?_
    refine zq_wg 1 (pc' := 19) (lv' := [some (.ref a0), some (.int a1)]) (st' := [.ref a0, .ref v8]) (h' := h3) rfl ?_
    obtain ⟨v10, e11, hf⟩ := zo_b_s hf
    refine zr_gR rfl rfl (by decide) rfl e11 ?_
    refine zq_wg 1 (pc' := 23) (lv' := [some (.ref a0), some (.int a1)]) (st' := [.ref a0, .ref v10, .ref v8]) (h' := h3) rfl ?_
    obtain ⟨v12, e13, hf⟩ := zo_b_s hf
    refine zr_gR rfl rfl (by decide) rfl e13 ?_
    obtain ⟨e17, w15, h14, e16, hf⟩ := zo_v_s hf
    refine zr_cv zq_m112 [.ref v10, .ref v12] [] rfl rfl rfl rfl rfl (Nat.le_of_ble_eq_true rfl) (Nat.le_of_ble_eq_true rfl) e17 (zx_Trade_swapAll_ok sc d (by omega) e16) ?_
    refine zq_wg 0 (pc' := 29) (lv' := [some (.ref a0), some (.int a1)]) (st' := []) (h' := h14) rfl ?_
    refine zq_wg 1 (pc' := 30) (lv' := [some (.ref a0), some (.int a1)]) (st' := [.ref a0]) (h' := h14) rfl ?_
    obtain ⟨v18, e19, hf⟩ := zo_b_s hf
    refine zr_gR rfl rfl (by decide) rfl e19 ?_
    obtain ⟨v20, e21, hf⟩ := zo_b_s hf
    refine zr_gR rfl rfl (by decide) rfl e21 ?_
    refine zq_wg 1 (pc' := 37) (lv' := [some (.ref a0), some (.int a1)]) (st' := [.int a1, .ref v20]) (h' := h14) rfl ?_
    obtain ⟨v23, h22, e24, hf⟩ := zo_c_s hf
    refine zr_cs zq_m12 [.ref v20, .int a1] [] rfl rfl (by decide) rfl rfl rfl (Nat.le_of_ble_eq_true rfl) (Nat.le_of_ble_eq_true rfl) (zx_at_ok sc d (by omega) e24) ?_
    refine zq_wg 0 (pc' := 40) (lv' := [some (.ref a0), some (.int a1)]) (st' := [.int v23]) (h' := h22) rfl ?_
    exact zr_ri rfl rfl rfl hf
set_option maxRecDepth 4000 in
def zx_leave_l19 (sc : zX) : Nat → Nat → Int32 → Int32 → zH → Option (Int32 × zH)
  | 0, _, _, _, _ => none
  | n + 1, y11, y12, y13, h14 => zo_b (zo_gR h14 9 y11 11) (fun v15 => zo_b (zo_gI h14 0 v15 1) (fun v17 => if v17 ≤ y13 then (some (y12, h14)) else (zo_b (zo_gR h14 9 y11 5) (fun v20 => zo_b (zo_gR h14 6 v20 0) (fun v22 => zo_c (zx_at sc v22 y13 h14) (fun v25 h24 => zo_b (zo_gR h24 9 y11 1) (fun v27 => zo_v h24 v27 4 (zx_State_postOf sc v27 y13 h24) (fun v30 h29 => zo_l (fun (x33 : Nat) (x34 : Int32) (x35 : Int32) (h36 : zH) => zx_leave_l19 sc n x33 x34 (x35 + (1 : Int32)) h36 ) (fun j58_36 => if v25 = v30 then (j58_36 y11 y12 y13 h29) else (j58_36 y11 (y12 ||| ((1 : Int32) <<< (y13 &&& 31))) y13 h29))))))))))
set_option maxRecDepth 4000 in
def zx_leave (sc : zX) (a0 : Nat) (h : zH) : Option (Int32 × zH) := zo_b (zo_gR h 9 a0 5) (fun v1 => zo_b (zo_gR h 9 a0 11) (fun v3 => zo_b (zo_gR h 9 a0 1) (fun v5 => zo_v h v1 6 (zx_Trade_swapAll sc v1 v3 v5 h) (fun w8 h7 => zx_leave_l19 sc zo_F a0 (0 : Int32) (0 : Int32) h7 ))))
set_option maxRecDepth 4000 in
theorem zx_leave_l19_ok (sc : zX) (d : Nat) (hd : 4 ≤ d) : ∀ (n : Nat) (y11 : Nat) (y12 : Int32) (y13 : Int32) (h14 : zH) (ro_ : Int32) (ho_ : zH),  zx_leave_l19 sc n y11 y12 y13 h14  = some (ro_, ho_) → zq_wp sc (d + 1) 116 19 [some (.ref y11), some (.int y12), some (.int y13)] [] h14 (some (.int ro_), ho_) := by
  intro n
  induction n with
  | zero => intro y11 y12 y13 h14 ro_ ho_ hf; cases hf
  | succ n ih =>
    intro y11 y12 y13 h14 ro_ ho_ hf
    refine zq_wg 2 (pc' := 21) (lv' := [some (.ref y11), some (.int y12), some (.int y13)]) (st' := [.ref y11, .int y13]) (h' := h14) rfl ?_
    obtain ⟨v15, e16, hf⟩ := zo_b_s hf
    refine zr_gR rfl rfl (by decide) rfl e16 ?_
    obtain ⟨v17, e18, hf⟩ := zo_b_s hf
    refine zr_gI rfl rfl (by decide) rfl e18 ?_
    refine zr_if (v17 ≤ y13) 64 30 (st' := []) rfl rfl (fun b19 => ?_) (fun b19 => ?_)
    · have hf := zo_t hf b19
      refine zq_wg 1 (pc' := 65) (lv' := [some (.ref y11), some (.int y12), some (.int y13)]) (st' := [.int y12]) (h' := h14) rfl ?_
      exact zr_ri rfl rfl rfl hf
    · have hf := zo_f hf b19
      refine zq_wg 1 (pc' := 31) (lv' := [some (.ref y11), some (.int y12), some (.int y13)]) (st' := [.ref y11]) (h' := h14) rfl ?_
      obtain ⟨v20, e21, hf⟩ := zo_b_s hf
      refine zr_gR rfl rfl (by decide) rfl e21 ?_
      obtain ⟨v22, e23, hf⟩ := zo_b_s hf
      refine zr_gR rfl rfl (by decide) rfl e23 ?_
      refine zq_wg 1 (pc' := 38) (lv' := [some (.ref y11), some (.int y12), some (.int y13)]) (st' := [.int y13, .ref v22]) (h' := h14) rfl ?_
      obtain ⟨v25, h24, e26, hf⟩ := zo_c_s hf
      refine zr_cs zq_m12 [.ref v22, .int y13] [] rfl rfl (by decide) rfl rfl rfl (Nat.le_of_ble_eq_true rfl) (Nat.le_of_ble_eq_true rfl) (zx_at_ok sc d (by omega) e26) ?_
      refine zq_wg 0 (pc' := 41) (lv' := [some (.ref y11), some (.int y12), some (.int y13)]) (st' := [.int v25]) (h' := h24) rfl ?_
      refine zq_wg 1 (pc' := 42) (lv' := [some (.ref y11), some (.int y12), some (.int y13)]) (st' := [.ref y11, .int v25]) (h' := h24) rfl ?_
      obtain ⟨v27, e28, hf⟩ := zo_b_s hf
      refine zr_gR rfl rfl (by decide) rfl e28 ?_
      refine zq_wg 1 (pc' := 46) (lv' := [some (.ref y11), some (.int y12), some (.int y13)]) (st' := [.int y13, .ref v27, .int v25]) (h' := h24) rfl ?_
      obtain ⟨e32, v30, h29, e31, hf⟩ := zo_v_s hf
      refine zr_cv zq_m71 [.int y13] [.int v25] rfl rfl rfl rfl rfl (Nat.le_of_ble_eq_true rfl) (Nat.le_of_ble_eq_true rfl) e32 (zx_State_postOf_ok sc d (by omega) e31) ?_
      refine zq_wg 0 (pc' := 49) (lv' := [some (.ref y11), some (.int y12), some (.int y13)]) (st' := [.int v30, .int v25]) (h' := h29) rfl ?_
      obtain ⟨j58_36, hjj58_36, hf⟩ := zo_lj hf
      have kj58_36 : ∀ (x33 : Nat) (x34 : Int32) (x35 : Int32) (h36 : zH), j58_36 x33 x34 x35 h36 = some (ro_, ho_) → zq_wp sc (d + 1) 116 58 [some (.ref x33), some (.int x34), some (.int x35)] [] h36 (some (.int ro_), ho_) := by
        intro x33 x34 x35 h36 hf
        rw [hjj58_36] at hf
        refine zq_wg 2 (pc' := 19) (lv' := [some (.ref x33), some (.int x34), some (.int (x35 + (1 : Int32)))]) (st' := []) (h' := h36) rfl ?_
        exact ih x33 x34 (x35 + (1 : Int32)) h36 _ _ hf
      refine zr_if (v25 = v30) 58 52 (st' := []) rfl rfl (fun b37 => ?_) (fun b37 => ?_)
      · have hf := zo_t hf b37
        exact kj58_36 y11 y12 y13 h29 hf
      · have hf := zo_f hf b37
        refine zq_wg 6 (pc' := 58) (lv' := [some (.ref y11), some (.int (y12 ||| ((1 : Int32) <<< (y13 &&& 31)))), some (.int y13)]) (st' := []) (h' := h29) rfl ?_
        exact kj58_36 y11 (y12 ||| ((1 : Int32) <<< (y13 &&& 31))) y13 h29 hf
set_option maxRecDepth 4000 in
theorem zx_leave_ok (sc : zX) (d : Nat) (hd : 5 ≤ d) {a0 : Nat} {h : zH} {ro_ : Int32} {ho_ : zH} (hf : zx_leave sc a0 h = some (ro_, ho_)) : zq_wm sc d 116 [.ref a0] h (some (.int ro_), ho_) := by
  unfold zx_leave at hf
  obtain ⟨d, rfl⟩ : ∃ d', d = d' + 1 := ⟨d - 1, by omega⟩
  have hd : 4 ≤ d := by omega
  show zq_wp sc (d + 1) 116 0 [some (.ref a0), none, none] [] h _
  refine zq_wg 1 (pc' := 1) (lv' := [some (.ref a0), none, none]) (st' := [.ref a0]) (h' := h) rfl ?_
  obtain ⟨v1, e2, hf⟩ := zo_b_s hf
  refine zr_gR rfl rfl (by decide) rfl e2 ?_
  refine zq_wg 1 (pc' := 5) (lv' := [some (.ref a0), none, none]) (st' := [.ref a0, .ref v1]) (h' := h) rfl ?_
  obtain ⟨v3, e4, hf⟩ := zo_b_s hf
  refine zr_gR rfl rfl (by decide) rfl e4 ?_
  refine zq_wg 1 (pc' := 9) (lv' := [some (.ref a0), none, none]) (st' := [.ref a0, .ref v3, .ref v1]) (h' := h) rfl ?_
  obtain ⟨v5, e6, hf⟩ := zo_b_s hf
  refine zr_gR rfl rfl (by decide) rfl e6 ?_
  obtain ⟨e10, w8, h7, e9, hf⟩ := zo_v_s hf
  refine zr_cv zq_m112 [.ref v3, .ref v5] [] rfl rfl rfl rfl rfl (Nat.le_of_ble_eq_true rfl) (Nat.le_of_ble_eq_true rfl) e10 (zx_Trade_swapAll_ok sc d (by omega) e9) ?_
  refine zq_wg 0 (pc' := 15) (lv' := [some (.ref a0), none, none]) (st' := []) (h' := h7) rfl ?_
  refine zq_wg 4 (pc' := 19) (lv' := [some (.ref a0), some (.int (0 : Int32)), some (.int (0 : Int32))]) (st' := []) (h' := h7) rfl ?_
  refine zx_leave_l19_ok sc d hd zo_F a0 (0 : Int32) (0 : Int32) h7 _ _ hf
set_option maxRecDepth 4000 in
def zx_canPool_l21 (sc : zX) : Nat → Nat → Int32 → Int32 → zH → Option (Int32 × zH)
  | 0, _, _, _, _ => none
  | n + 1, y7, y8, y9, h10 => zo_b (zo_gR h10 9 y7 11) (fun v11 => zo_b (zo_gI h10 0 v11 1) (fun v13 => if v13 ≤ y9 then (some ((1 : Int32), h10)) else (zo_l (fun (x16 : Nat) (x17 : Int32) (x18 : Int32) (h19 : zH) => zx_canPool_l21 sc n x16 x17 (x18 + (1 : Int32)) h19 ) (fun j55_19 => if ((y8 >>> (y9 &&& 31)) &&& (1 : Int32)) = (1 : Int32) then (zo_b (zo_gR h10 9 y7 1) (fun v21 => zo_v h10 v21 4 (zx_State_postOf sc v21 y9 h10) (fun v24 h23 => if v24 = (-1 : Int32) then (some ((0 : Int32), h23)) else (j55_19 y7 y8 y9 h23)))) else (j55_19 y7 y8 y9 h10)))))
set_option maxRecDepth 4000 in
def zx_canPool (sc : zX) (a0 : Nat) (a1 : Int32) (h : zH) : Option (Int32 × zH) := if a1 ≤ 0 then (some ((0 : Int32), h)) else (zo_b (zo_gR h 9 a0 11) (fun v2 => zo_b (zo_gI h 0 v2 1) (fun v4 => if a1 < ((1 : Int32) <<< (v4 &&& 31)) then (zx_canPool_l21 sc zo_F a0 a1 (0 : Int32) h ) else (some ((0 : Int32), h)))))
set_option maxRecDepth 4000 in
theorem zx_canPool_l21_ok (sc : zX) (d : Nat) (hd : 1 ≤ d) : ∀ (n : Nat) (y7 : Nat) (y8 : Int32) (y9 : Int32) (h10 : zH) (ro_ : Int32) (ho_ : zH),  zx_canPool_l21 sc n y7 y8 y9 h10  = some (ro_, ho_) → zq_wp sc (d + 1) 118 21 [some (.ref y7), some (.int y8), some (.int y9)] [] h10 (some (.int ro_), ho_) := by
  intro n
  induction n with
  | zero => intro y7 y8 y9 h10 ro_ ho_ hf; cases hf
  | succ n ih =>
    intro y7 y8 y9 h10 ro_ ho_ hf
    refine zq_wg 2 (pc' := 23) (lv' := [some (.ref y7), some (.int y8), some (.int y9)]) (st' := [.ref y7, .int y9]) (h' := h10) rfl ?_
    obtain ⟨v11, e12, hf⟩ := zo_b_s hf
    refine zr_gR rfl rfl (by decide) rfl e12 ?_
    obtain ⟨v13, e14, hf⟩ := zo_b_s hf
    refine zr_gI rfl rfl (by decide) rfl e14 ?_
    refine zr_if (v13 ≤ y9) 61 32 (st' := []) rfl rfl (fun b15 => ?_) (fun b15 => ?_)
    · have hf := zo_t hf b15
      refine zq_wg 1 (pc' := 62) (lv' := [some (.ref y7), some (.int y8), some (.int y9)]) (st' := [.int (1 : Int32)]) (h' := h10) rfl ?_
      exact zr_ri rfl rfl rfl hf
    · have hf := zo_f hf b15
      refine zq_wg 6 (pc' := 38) (lv' := [some (.ref y7), some (.int y8), some (.int y9)]) (st' := [.int (1 : Int32), .int ((y8 >>> (y9 &&& 31)) &&& (1 : Int32))]) (h' := h10) rfl ?_
      obtain ⟨j55_19, hjj55_19, hf⟩ := zo_lj hf
      have kj55_19 : ∀ (x16 : Nat) (x17 : Int32) (x18 : Int32) (h19 : zH), j55_19 x16 x17 x18 h19 = some (ro_, ho_) → zq_wp sc (d + 1) 118 55 [some (.ref x16), some (.int x17), some (.int x18)] [] h19 (some (.int ro_), ho_) := by
        intro x16 x17 x18 h19 hf
        rw [hjj55_19] at hf
        refine zq_wg 2 (pc' := 21) (lv' := [some (.ref x16), some (.int x17), some (.int (x18 + (1 : Int32)))]) (st' := []) (h' := h19) rfl ?_
        exact ih x16 x17 (x18 + (1 : Int32)) h19 _ _ hf
      refine zr_if (((y8 >>> (y9 &&& 31)) &&& (1 : Int32)) = (1 : Int32)) 41 55 (st' := []) rfl rfl (fun b20 => ?_) (fun b20 => ?_)
      · have hf := zo_t hf b20
        refine zq_wg 1 (pc' := 42) (lv' := [some (.ref y7), some (.int y8), some (.int y9)]) (st' := [.ref y7]) (h' := h10) rfl ?_
        obtain ⟨v21, e22, hf⟩ := zo_b_s hf
        refine zr_gR rfl rfl (by decide) rfl e22 ?_
        refine zq_wg 1 (pc' := 46) (lv' := [some (.ref y7), some (.int y8), some (.int y9)]) (st' := [.int y9, .ref v21]) (h' := h10) rfl ?_
        obtain ⟨e26, v24, h23, e25, hf⟩ := zo_v_s hf
        refine zr_cv zq_m71 [.int y9] [] rfl rfl rfl rfl rfl (Nat.le_of_ble_eq_true rfl) (Nat.le_of_ble_eq_true rfl) e26 (zx_State_postOf_ok sc d (by omega) e25) ?_
        refine zq_wg 0 (pc' := 49) (lv' := [some (.ref y7), some (.int y8), some (.int y9)]) (st' := [.int v24]) (h' := h23) rfl ?_
        refine zq_wg 1 (pc' := 50) (lv' := [some (.ref y7), some (.int y8), some (.int y9)]) (st' := [.int (-1 : Int32), .int v24]) (h' := h23) rfl ?_
        refine zr_if (v24 = (-1 : Int32)) 53 55 (st' := []) rfl rfl (fun b27 => ?_) (fun b27 => ?_)
        · have hf := zo_t hf b27
          refine zq_wg 1 (pc' := 54) (lv' := [some (.ref y7), some (.int y8), some (.int y9)]) (st' := [.int (0 : Int32)]) (h' := h23) rfl ?_
          exact zr_ri rfl rfl rfl hf
        · have hf := zo_f hf b27
          exact kj55_19 y7 y8 y9 h23 hf
      · have hf := zo_f hf b20
        exact kj55_19 y7 y8 y9 h10 hf
set_option maxRecDepth 4000 in
theorem zx_canPool_ok (sc : zX) (d : Nat) (hd : 2 ≤ d) {a0 : Nat} {a1 : Int32} {h : zH} {ro_ : Int32} {ho_ : zH} (hf : zx_canPool sc a0 a1 h = some (ro_, ho_)) : zq_wm sc d 118 [.ref a0, .int a1] h (some (.int ro_), ho_) := by
  unfold zx_canPool at hf
  obtain ⟨d, rfl⟩ : ∃ d', d = d' + 1 := ⟨d - 1, by omega⟩
  have hd : 1 ≤ d := by omega
  show zq_wp sc (d + 1) 118 0 [some (.ref a0), some (.int a1), none] [] h _
  refine zq_wg 1 (pc' := 1) (lv' := [some (.ref a0), some (.int a1), none]) (st' := [.int a1]) (h' := h) rfl ?_
  refine zr_if (a1 ≤ 0) 17 4 (st' := []) rfl rfl (fun b1 => ?_) (fun b1 => ?_)
  · have hf := zo_t hf b1
    refine zq_wg 1 (pc' := 18) (lv' := [some (.ref a0), some (.int a1), none]) (st' := [.int (0 : Int32)]) (h' := h) rfl ?_
    exact zr_ri rfl rfl rfl hf
  · have hf := zo_f hf b1
    refine zq_wg 3 (pc' := 7) (lv' := [some (.ref a0), some (.int a1), none]) (st' := [.ref a0, .int (1 : Int32), .int a1]) (h' := h) rfl ?_
    obtain ⟨v2, e3, hf⟩ := zo_b_s hf
    refine zr_gR rfl rfl (by decide) rfl e3 ?_
    obtain ⟨v4, e5, hf⟩ := zo_b_s hf
    refine zr_gI rfl rfl (by decide) rfl e5 ?_
    refine zq_wg 1 (pc' := 14) (lv' := [some (.ref a0), some (.int a1), none]) (st' := [.int ((1 : Int32) <<< (v4 &&& 31)), .int a1]) (h' := h) rfl ?_
    refine zr_if (a1 < ((1 : Int32) <<< (v4 &&& 31))) 19 17 (st' := []) rfl rfl (fun b6 => ?_) (fun b6 => ?_)
    · have hf := zo_t hf b6
      refine zq_wg 2 (pc' := 21) (lv' := [some (.ref a0), some (.int a1), some (.int (0 : Int32))]) (st' := []) (h' := h) rfl ?_
      refine zx_canPool_l21_ok sc d hd zo_F a0 a1 (0 : Int32) h _ _ hf
    · have hf := zo_f hf b6
      refine zq_wg 1 (pc' := 18) (lv' := [some (.ref a0), some (.int a1), none]) (st' := [.int (0 : Int32)]) (h' := h) rfl ?_
      exact zr_ri rfl rfl rfl hf
set_option maxRecDepth 4000 in
def zj_bitCount (sc : zX) (a0 : Int32) (h : zH) : Option (Int32 × zH) := some (((((((((a0 - ((a0.toUInt32 >>> ((1 : Int32).toUInt32 &&& Int32.toUInt32 31)).toInt32 &&& (1431655765 : Int32))) &&& (858993459 : Int32)) + (((a0 - ((a0.toUInt32 >>> ((1 : Int32).toUInt32 &&& Int32.toUInt32 31)).toInt32 &&& (1431655765 : Int32))).toUInt32 >>> ((2 : Int32).toUInt32 &&& Int32.toUInt32 31)).toInt32 &&& (858993459 : Int32))) + ((((a0 - ((a0.toUInt32 >>> ((1 : Int32).toUInt32 &&& Int32.toUInt32 31)).toInt32 &&& (1431655765 : Int32))) &&& (858993459 : Int32)) + (((a0 - ((a0.toUInt32 >>> ((1 : Int32).toUInt32 &&& Int32.toUInt32 31)).toInt32 &&& (1431655765 : Int32))).toUInt32 >>> ((2 : Int32).toUInt32 &&& Int32.toUInt32 31)).toInt32 &&& (858993459 : Int32))).toUInt32 >>> ((4 : Int32).toUInt32 &&& Int32.toUInt32 31)).toInt32) &&& (252645135 : Int32)) + ((((((a0 - ((a0.toUInt32 >>> ((1 : Int32).toUInt32 &&& Int32.toUInt32 31)).toInt32 &&& (1431655765 : Int32))) &&& (858993459 : Int32)) + (((a0 - ((a0.toUInt32 >>> ((1 : Int32).toUInt32 &&& Int32.toUInt32 31)).toInt32 &&& (1431655765 : Int32))).toUInt32 >>> ((2 : Int32).toUInt32 &&& Int32.toUInt32 31)).toInt32 &&& (858993459 : Int32))) + ((((a0 - ((a0.toUInt32 >>> ((1 : Int32).toUInt32 &&& Int32.toUInt32 31)).toInt32 &&& (1431655765 : Int32))) &&& (858993459 : Int32)) + (((a0 - ((a0.toUInt32 >>> ((1 : Int32).toUInt32 &&& Int32.toUInt32 31)).toInt32 &&& (1431655765 : Int32))).toUInt32 >>> ((2 : Int32).toUInt32 &&& Int32.toUInt32 31)).toInt32 &&& (858993459 : Int32))).toUInt32 >>> ((4 : Int32).toUInt32 &&& Int32.toUInt32 31)).toInt32) &&& (252645135 : Int32)).toUInt32 >>> ((8 : Int32).toUInt32 &&& Int32.toUInt32 31)).toInt32) + (((((((a0 - ((a0.toUInt32 >>> ((1 : Int32).toUInt32 &&& Int32.toUInt32 31)).toInt32 &&& (1431655765 : Int32))) &&& (858993459 : Int32)) + (((a0 - ((a0.toUInt32 >>> ((1 : Int32).toUInt32 &&& Int32.toUInt32 31)).toInt32 &&& (1431655765 : Int32))).toUInt32 >>> ((2 : Int32).toUInt32 &&& Int32.toUInt32 31)).toInt32 &&& (858993459 : Int32))) + ((((a0 - ((a0.toUInt32 >>> ((1 : Int32).toUInt32 &&& Int32.toUInt32 31)).toInt32 &&& (1431655765 : Int32))) &&& (858993459 : Int32)) + (((a0 - ((a0.toUInt32 >>> ((1 : Int32).toUInt32 &&& Int32.toUInt32 31)).toInt32 &&& (1431655765 : Int32))).toUInt32 >>> ((2 : Int32).toUInt32 &&& Int32.toUInt32 31)).toInt32 &&& (858993459 : Int32))).toUInt32 >>> ((4 : Int32).toUInt32 &&& Int32.toUInt32 31)).toInt32) &&& (252645135 : Int32)) + ((((((a0 - ((a0.toUInt32 >>> ((1 : Int32).toUInt32 &&& Int32.toUInt32 31)).toInt32 &&& (1431655765 : Int32))) &&& (858993459 : Int32)) + (((a0 - ((a0.toUInt32 >>> ((1 : Int32).toUInt32 &&& Int32.toUInt32 31)).toInt32 &&& (1431655765 : Int32))).toUInt32 >>> ((2 : Int32).toUInt32 &&& Int32.toUInt32 31)).toInt32 &&& (858993459 : Int32))) + ((((a0 - ((a0.toUInt32 >>> ((1 : Int32).toUInt32 &&& Int32.toUInt32 31)).toInt32 &&& (1431655765 : Int32))) &&& (858993459 : Int32)) + (((a0 - ((a0.toUInt32 >>> ((1 : Int32).toUInt32 &&& Int32.toUInt32 31)).toInt32 &&& (1431655765 : Int32))).toUInt32 >>> ((2 : Int32).toUInt32 &&& Int32.toUInt32 31)).toInt32 &&& (858993459 : Int32))).toUInt32 >>> ((4 : Int32).toUInt32 &&& Int32.toUInt32 31)).toInt32) &&& (252645135 : Int32)).toUInt32 >>> ((8 : Int32).toUInt32 &&& Int32.toUInt32 31)).toInt32).toUInt32 >>> ((16 : Int32).toUInt32 &&& Int32.toUInt32 31)).toInt32) &&& (63 : Int32)), h)
set_option maxRecDepth 4000 in
theorem zj_bitCount_ok (sc : zX) (d : Nat) (hd : 0 ≤ d) {a0 : Int32} {h : zH} {ro_ : Int32} {ho_ : zH} (hf : zj_bitCount sc a0 h = some (ro_, ho_)) : zq_wm sc d 120 [.int a0] h (some (.int ro_), ho_) := by
  unfold zj_bitCount at hf
  show zq_wp sc d 120 0 [some (.int a0)] [] h _
  refine zq_wg 41 (pc' := 52) (lv' := [some (.int (((((((a0 - ((a0.toUInt32 >>> ((1 : Int32).toUInt32 &&& Int32.toUInt32 31)).toInt32 &&& (1431655765 : Int32))) &&& (858993459 : Int32)) + (((a0 - ((a0.toUInt32 >>> ((1 : Int32).toUInt32 &&& Int32.toUInt32 31)).toInt32 &&& (1431655765 : Int32))).toUInt32 >>> ((2 : Int32).toUInt32 &&& Int32.toUInt32 31)).toInt32 &&& (858993459 : Int32))) + ((((a0 - ((a0.toUInt32 >>> ((1 : Int32).toUInt32 &&& Int32.toUInt32 31)).toInt32 &&& (1431655765 : Int32))) &&& (858993459 : Int32)) + (((a0 - ((a0.toUInt32 >>> ((1 : Int32).toUInt32 &&& Int32.toUInt32 31)).toInt32 &&& (1431655765 : Int32))).toUInt32 >>> ((2 : Int32).toUInt32 &&& Int32.toUInt32 31)).toInt32 &&& (858993459 : Int32))).toUInt32 >>> ((4 : Int32).toUInt32 &&& Int32.toUInt32 31)).toInt32) &&& (252645135 : Int32)) + ((((((a0 - ((a0.toUInt32 >>> ((1 : Int32).toUInt32 &&& Int32.toUInt32 31)).toInt32 &&& (1431655765 : Int32))) &&& (858993459 : Int32)) + (((a0 - ((a0.toUInt32 >>> ((1 : Int32).toUInt32 &&& Int32.toUInt32 31)).toInt32 &&& (1431655765 : Int32))).toUInt32 >>> ((2 : Int32).toUInt32 &&& Int32.toUInt32 31)).toInt32 &&& (858993459 : Int32))) + ((((a0 - ((a0.toUInt32 >>> ((1 : Int32).toUInt32 &&& Int32.toUInt32 31)).toInt32 &&& (1431655765 : Int32))) &&& (858993459 : Int32)) + (((a0 - ((a0.toUInt32 >>> ((1 : Int32).toUInt32 &&& Int32.toUInt32 31)).toInt32 &&& (1431655765 : Int32))).toUInt32 >>> ((2 : Int32).toUInt32 &&& Int32.toUInt32 31)).toInt32 &&& (858993459 : Int32))).toUInt32 >>> ((4 : Int32).toUInt32 &&& Int32.toUInt32 31)).toInt32) &&& (252645135 : Int32)).toUInt32 >>> ((8 : Int32).toUInt32 &&& Int32.toUInt32 31)).toInt32) + (((((((a0 - ((a0.toUInt32 >>> ((1 : Int32).toUInt32 &&& Int32.toUInt32 31)).toInt32 &&& (1431655765 : Int32))) &&& (858993459 : Int32)) + (((a0 - ((a0.toUInt32 >>> ((1 : Int32).toUInt32 &&& Int32.toUInt32 31)).toInt32 &&& (1431655765 : Int32))).toUInt32 >>> ((2 : Int32).toUInt32 &&& Int32.toUInt32 31)).toInt32 &&& (858993459 : Int32))) + ((((a0 - ((a0.toUInt32 >>> ((1 : Int32).toUInt32 &&& Int32.toUInt32 31)).toInt32 &&& (1431655765 : Int32))) &&& (858993459 : Int32)) + (((a0 - ((a0.toUInt32 >>> ((1 : Int32).toUInt32 &&& Int32.toUInt32 31)).toInt32 &&& (1431655765 : Int32))).toUInt32 >>> ((2 : Int32).toUInt32 &&& Int32.toUInt32 31)).toInt32 &&& (858993459 : Int32))).toUInt32 >>> ((4 : Int32).toUInt32 &&& Int32.toUInt32 31)).toInt32) &&& (252645135 : Int32)) + ((((((a0 - ((a0.toUInt32 >>> ((1 : Int32).toUInt32 &&& Int32.toUInt32 31)).toInt32 &&& (1431655765 : Int32))) &&& (858993459 : Int32)) + (((a0 - ((a0.toUInt32 >>> ((1 : Int32).toUInt32 &&& Int32.toUInt32 31)).toInt32 &&& (1431655765 : Int32))).toUInt32 >>> ((2 : Int32).toUInt32 &&& Int32.toUInt32 31)).toInt32 &&& (858993459 : Int32))) + ((((a0 - ((a0.toUInt32 >>> ((1 : Int32).toUInt32 &&& Int32.toUInt32 31)).toInt32 &&& (1431655765 : Int32))) &&& (858993459 : Int32)) + (((a0 - ((a0.toUInt32 >>> ((1 : Int32).toUInt32 &&& Int32.toUInt32 31)).toInt32 &&& (1431655765 : Int32))).toUInt32 >>> ((2 : Int32).toUInt32 &&& Int32.toUInt32 31)).toInt32 &&& (858993459 : Int32))).toUInt32 >>> ((4 : Int32).toUInt32 &&& Int32.toUInt32 31)).toInt32) &&& (252645135 : Int32)).toUInt32 >>> ((8 : Int32).toUInt32 &&& Int32.toUInt32 31)).toInt32).toUInt32 >>> ((16 : Int32).toUInt32 &&& Int32.toUInt32 31)).toInt32))]) (st' := [.int ((((((((a0 - ((a0.toUInt32 >>> ((1 : Int32).toUInt32 &&& Int32.toUInt32 31)).toInt32 &&& (1431655765 : Int32))) &&& (858993459 : Int32)) + (((a0 - ((a0.toUInt32 >>> ((1 : Int32).toUInt32 &&& Int32.toUInt32 31)).toInt32 &&& (1431655765 : Int32))).toUInt32 >>> ((2 : Int32).toUInt32 &&& Int32.toUInt32 31)).toInt32 &&& (858993459 : Int32))) + ((((a0 - ((a0.toUInt32 >>> ((1 : Int32).toUInt32 &&& Int32.toUInt32 31)).toInt32 &&& (1431655765 : Int32))) &&& (858993459 : Int32)) + (((a0 - ((a0.toUInt32 >>> ((1 : Int32).toUInt32 &&& Int32.toUInt32 31)).toInt32 &&& (1431655765 : Int32))).toUInt32 >>> ((2 : Int32).toUInt32 &&& Int32.toUInt32 31)).toInt32 &&& (858993459 : Int32))).toUInt32 >>> ((4 : Int32).toUInt32 &&& Int32.toUInt32 31)).toInt32) &&& (252645135 : Int32)) + ((((((a0 - ((a0.toUInt32 >>> ((1 : Int32).toUInt32 &&& Int32.toUInt32 31)).toInt32 &&& (1431655765 : Int32))) &&& (858993459 : Int32)) + (((a0 - ((a0.toUInt32 >>> ((1 : Int32).toUInt32 &&& Int32.toUInt32 31)).toInt32 &&& (1431655765 : Int32))).toUInt32 >>> ((2 : Int32).toUInt32 &&& Int32.toUInt32 31)).toInt32 &&& (858993459 : Int32))) + ((((a0 - ((a0.toUInt32 >>> ((1 : Int32).toUInt32 &&& Int32.toUInt32 31)).toInt32 &&& (1431655765 : Int32))) &&& (858993459 : Int32)) + (((a0 - ((a0.toUInt32 >>> ((1 : Int32).toUInt32 &&& Int32.toUInt32 31)).toInt32 &&& (1431655765 : Int32))).toUInt32 >>> ((2 : Int32).toUInt32 &&& Int32.toUInt32 31)).toInt32 &&& (858993459 : Int32))).toUInt32 >>> ((4 : Int32).toUInt32 &&& Int32.toUInt32 31)).toInt32) &&& (252645135 : Int32)).toUInt32 >>> ((8 : Int32).toUInt32 &&& Int32.toUInt32 31)).toInt32) + (((((((a0 - ((a0.toUInt32 >>> ((1 : Int32).toUInt32 &&& Int32.toUInt32 31)).toInt32 &&& (1431655765 : Int32))) &&& (858993459 : Int32)) + (((a0 - ((a0.toUInt32 >>> ((1 : Int32).toUInt32 &&& Int32.toUInt32 31)).toInt32 &&& (1431655765 : Int32))).toUInt32 >>> ((2 : Int32).toUInt32 &&& Int32.toUInt32 31)).toInt32 &&& (858993459 : Int32))) + ((((a0 - ((a0.toUInt32 >>> ((1 : Int32).toUInt32 &&& Int32.toUInt32 31)).toInt32 &&& (1431655765 : Int32))) &&& (858993459 : Int32)) + (((a0 - ((a0.toUInt32 >>> ((1 : Int32).toUInt32 &&& Int32.toUInt32 31)).toInt32 &&& (1431655765 : Int32))).toUInt32 >>> ((2 : Int32).toUInt32 &&& Int32.toUInt32 31)).toInt32 &&& (858993459 : Int32))).toUInt32 >>> ((4 : Int32).toUInt32 &&& Int32.toUInt32 31)).toInt32) &&& (252645135 : Int32)) + ((((((a0 - ((a0.toUInt32 >>> ((1 : Int32).toUInt32 &&& Int32.toUInt32 31)).toInt32 &&& (1431655765 : Int32))) &&& (858993459 : Int32)) + (((a0 - ((a0.toUInt32 >>> ((1 : Int32).toUInt32 &&& Int32.toUInt32 31)).toInt32 &&& (1431655765 : Int32))).toUInt32 >>> ((2 : Int32).toUInt32 &&& Int32.toUInt32 31)).toInt32 &&& (858993459 : Int32))) + ((((a0 - ((a0.toUInt32 >>> ((1 : Int32).toUInt32 &&& Int32.toUInt32 31)).toInt32 &&& (1431655765 : Int32))) &&& (858993459 : Int32)) + (((a0 - ((a0.toUInt32 >>> ((1 : Int32).toUInt32 &&& Int32.toUInt32 31)).toInt32 &&& (1431655765 : Int32))).toUInt32 >>> ((2 : Int32).toUInt32 &&& Int32.toUInt32 31)).toInt32 &&& (858993459 : Int32))).toUInt32 >>> ((4 : Int32).toUInt32 &&& Int32.toUInt32 31)).toInt32) &&& (252645135 : Int32)).toUInt32 >>> ((8 : Int32).toUInt32 &&& Int32.toUInt32 31)).toInt32).toUInt32 >>> ((16 : Int32).toUInt32 &&& Int32.toUInt32 31)).toInt32) &&& (63 : Int32))]) (h' := h) rfl ?_
  exact zr_ri rfl rfl rfl hf
set_option maxRecDepth 4000 in
def zx_Trade_worthOf_l6 (sc : zX) : Nat → Nat → Nat → Nat → Int32 → Int32 → Int32 → zH → (Nat → Nat → Int32 → zH → Option (Int32 × zH)) → Option (Int32 × zH)
  | 0, _, _, _, _, _, _, _, _ => none
  | n + 1, y1, y2, y3, y4, y5, y6, h7, k60 => zo_b (zo_gI h7 0 y2 1) (fun v8 => if v8 ≤ y6 then (k60 y1 y2 y5 h7) else (zo_l (fun (x11 : Nat) (x12 : Nat) (x13 : Nat) (x14 : Int32) (x15 : Int32) (x16 : Int32) (h17 : zH) => zx_Trade_worthOf_l6 sc n x11 x12 x13 x14 x15 (x16 + (1 : Int32)) h17 k60) (fun j54_17 => if ((y4 >>> (y6 &&& 31)) &&& (1 : Int32)) = (1 : Int32) then (zo_b (zo_gR h7 6 y1 1) (fun v19 => zo_c (zx_put sc v19 y5 y6 h7) (fun w22 h21 => zo_b (zo_gR h21 6 y1 2) (fun v24 => zo_v h21 y3 4 (zx_State_postOf sc y3 y6 h21) (fun v27 h26 => zo_c (zx_put sc v24 y5 v27 h26) (fun w31 h30 => j54_17 y1 y2 y3 y4 (y5 + (1 : Int32)) y6 h30)))))) else (j54_17 y1 y2 y3 y4 y5 y6 h7))))
set_option maxRecDepth 4000 in
def zx_Trade_worthOf_l103 (sc : zX) : Nat → Nat → Nat → Int32 → Int32 → Int32 → Int32 → Int32 → zH → (Nat → Nat → Int32 → Int32 → Int32 → zH → Option (Int32 × zH)) → Option (Int32 × zH)
  | 0, _, _, _, _, _, _, _, _, _ => none
  | n + 1, y56, y57, y58, y59, y60, y61, y62, h63, k168 => if y58 ≤ y62 then (k168 y56 y57 y58 y59 y61 h63) else (zo_l (fun (x65 : Nat) (x66 : Nat) (x67 : Int32) (x68 : Int32) (x69 : Int32) (x70 : Int32) (x71 : Int32) (h72 : zH) => zx_Trade_worthOf_l103 sc n x65 x66 x67 x68 x69 x70 (x71 + (1 : Int32)) h72 k168) (fun j162_72 => if ((y59 >>> (y62 &&& 31)) &&& (1 : Int32)) = (1 : Int32) then (zo_b (zo_gR h63 6 y56 3) (fun v74 => zo_c (zx_at sc v74 (y59 ^^^ ((1 : Int32) <<< (y62 &&& 31))) h63) (fun v77 h76 => zo_b (zo_gR h76 6 y56 2) (fun v79 => zo_c (zx_at sc v79 y62 h76) (fun v82 h81 => zo_v h81 y57 0 (zx_Army_forceOf sc y57 y60 v82 h81) (fun v85 h84 => j162_72 y56 y57 y58 y59 y60 (if y61 < (v77 + v85) then (v77 + v85) else y61) y62 h84)))))) else (j162_72 y56 y57 y58 y59 y60 y61 y62 h63)))
set_option maxRecDepth 4000 in
def zx_Trade_worthOf_l72 (sc : zX) : Nat → Nat → Nat → Int32 → Int32 → zH → (Nat → Int32 → zH → Option (Int32 × zH)) → Option (Int32 × zH)
  | 0, _, _, _, _, _, _ => none
  | n + 1, y42, y43, y44, y45, h46, k185 => if ((1 : Int32) <<< (y44 &&& 31)) ≤ y45 then (k185 y42 y44 h46) else (zo_b (zo_gR h46 6 y42 1) (fun v48 => zo_c (zj_bitCount sc y45 h46) (fun v51 h50 => zo_c (zx_at sc v48 (v51 - (1 : Int32)) h50) (fun v54 h53 => zx_Trade_worthOf_l103 sc zo_F y42 y43 y44 y45 v54 (0 : Int32) (0 : Int32) h53 (fun (x88 : Nat) (x89 : Nat) (x90 : Int32) (x91 : Int32) (x92 : Int32) (h93 : zH) => zo_b (zo_gR h93 6 x88 3) (fun v94 => zo_c (zx_put sc v94 x91 x92 h93) (fun w97 h96 => zx_Trade_worthOf_l72 sc n x88 x89 x90 (x91 + (1 : Int32)) h96 k185)))))))
set_option maxRecDepth 4000 in
def zx_Trade_worthOf (sc : zX) (a0 : Nat) (a1 : Nat) (a2 : Nat) (a3 : Int32) (h : zH) : Option (Int32 × zH) := zx_Trade_worthOf_l6 sc zo_F a0 a1 a2 a3 (0 : Int32) (0 : Int32) h (fun (x33 : Nat) (x34 : Nat) (x35 : Int32) (h36 : zH) => zo_b (zo_gR h36 6 x33 3) (fun v37 => zo_c (zx_put sc v37 (0 : Int32) (0 : Int32) h36) (fun w40 h39 => zx_Trade_worthOf_l72 sc zo_F x33 x34 x35 (1 : Int32) h39 (fun (x99 : Nat) (x100 : Int32) (h101 : zH) => zo_b (zo_gR h101 6 x99 3) (fun v102 => zo_c (zx_at sc v102 (((1 : Int32) <<< (x100 &&& 31)) - (1 : Int32)) h101) (fun v105 h104 => some (v105, h104)))))))
set_option maxRecDepth 4000 in
theorem zx_Trade_worthOf_l6_ok (sc : zX) (d : Nat) (hd : 2 ≤ d) : ∀ (n : Nat) (y1 : Nat) (y2 : Nat) (y3 : Nat) (y4 : Int32) (y5 : Int32) (y6 : Int32) (h7 : zH) (k60 : Nat → Nat → Int32 → zH → Option (Int32 × zH)) (ro_ : Int32) (ho_ : zH), (∀ (z0 : Nat) (z1 : Nat) (z2 : Int32) (hz : zH), k60 z0 z1 z2 hz = some (ro_, ho_) → zq_wp sc (d + 1) 119 60 [some (.ref z0), some (.ref z1), none, none, some (.int z2), none, none, none, none, none] [] hz (some (.int ro_), ho_)) → zx_Trade_worthOf_l6 sc n y1 y2 y3 y4 y5 y6 h7 k60 = some (ro_, ho_) → zq_wp sc (d + 1) 119 6 [some (.ref y1), some (.ref y2), some (.ref y3), some (.int y4), some (.int y5), some (.int y6), none, none, none, none] [] h7 (some (.int ro_), ho_) := by
  intro n
  induction n with
  | zero => intro y1 y2 y3 y4 y5 y6 h7 k60 ro_ ho_ hk60 hf; cases hf
  | succ n ih =>
    intro y1 y2 y3 y4 y5 y6 h7 k60 ro_ ho_ hk60 hf
    refine zq_wg 2 (pc' := 9) (lv' := [some (.ref y1), some (.ref y2), some (.ref y3), some (.int y4), some (.int y5), some (.int y6), none, none, none, none]) (st' := [.ref y2, .int y6]) (h' := h7) rfl ?_
    obtain ⟨v8, e9, hf⟩ := zo_b_s hf
    refine zr_gI rfl rfl (by decide) rfl e9 ?_
    refine zr_if (v8 ≤ y6) 60 15 (st' := []) rfl rfl (fun b10 => ?_) (fun b10 => ?_)
    · have hf := zo_t hf b10
      refine zq_fg [some (.ref y1), some (.ref y2), none, none, some (.int y5), none, none, none, none, none] (zq_lvle_s (zq_lvle_s (zq_lvle_n (zq_lvle_n (zq_lvle_s (zq_lvle_n (zq_lvle_s (zq_lvle_s (zq_lvle_s (zq_lvle_s zq_lvle_nil)))))))))) ?_
      exact hk60 y1 y2 y5 h7 hf
    · have hf := zo_f hf b10
      refine zq_wg 6 (pc' := 22) (lv' := [some (.ref y1), some (.ref y2), some (.ref y3), some (.int y4), some (.int y5), some (.int y6), none, none, none, none]) (st' := [.int (1 : Int32), .int ((y4 >>> (y6 &&& 31)) &&& (1 : Int32))]) (h' := h7) rfl ?_
      obtain ⟨j54_17, hjj54_17, hf⟩ := zo_lj hf
      have kj54_17 : ∀ (x11 : Nat) (x12 : Nat) (x13 : Nat) (x14 : Int32) (x15 : Int32) (x16 : Int32) (h17 : zH), j54_17 x11 x12 x13 x14 x15 x16 h17 = some (ro_, ho_) → zq_wp sc (d + 1) 119 54 [some (.ref x11), some (.ref x12), some (.ref x13), some (.int x14), some (.int x15), some (.int x16), none, none, none, none] [] h17 (some (.int ro_), ho_) := by
        intro x11 x12 x13 x14 x15 x16 h17 hf
        rw [hjj54_17] at hf
        refine zq_wg 2 (pc' := 6) (lv' := [some (.ref x11), some (.ref x12), some (.ref x13), some (.int x14), some (.int x15), some (.int (x16 + (1 : Int32))), none, none, none, none]) (st' := []) (h' := h17) rfl ?_
        exact ih x11 x12 x13 x14 x15 (x16 + (1 : Int32)) h17 _ _ _ hk60 hf
      refine zr_if (((y4 >>> (y6 &&& 31)) &&& (1 : Int32)) = (1 : Int32)) 25 54 (st' := []) rfl rfl (fun b18 => ?_) (fun b18 => ?_)
      · have hf := zo_t hf b18
        refine zq_wg 1 (pc' := 26) (lv' := [some (.ref y1), some (.ref y2), some (.ref y3), some (.int y4), some (.int y5), some (.int y6), none, none, none, none]) (st' := [.ref y1]) (h' := h7) rfl ?_
        obtain ⟨v19, e20, hf⟩ := zo_b_s hf
        refine zr_gR rfl rfl (by decide) rfl e20 ?_
        refine zq_wg 2 (pc' := 33) (lv' := [some (.ref y1), some (.ref y2), some (.ref y3), some (.int y4), some (.int y5), some (.int y6), none, none, none, none]) (st' := [.int y6, .int y5, .ref v19]) (h' := h7) rfl ?_
        obtain ⟨w22, h21, e23, hf⟩ := zo_c_s hf
        refine zr_cs zq_m11 [.ref v19, .int y5, .int y6] [] rfl rfl (by decide) rfl rfl rfl (Nat.le_of_ble_eq_true rfl) (Nat.le_of_ble_eq_true rfl) (zx_put_ok sc d (by omega) e23) ?_
        refine zq_wg 0 (pc' := 36) (lv' := [some (.ref y1), some (.ref y2), some (.ref y3), some (.int y4), some (.int y5), some (.int y6), none, none, none, none]) (st' := []) (h' := h21) rfl ?_
        refine zq_wg 1 (pc' := 37) (lv' := [some (.ref y1), some (.ref y2), some (.ref y3), some (.int y4), some (.int y5), some (.int y6), none, none, none, none]) (st' := [.ref y1]) (h' := h21) rfl ?_
        obtain ⟨v24, e25, hf⟩ := zo_b_s hf
        refine zr_gR rfl rfl (by decide) rfl e25 ?_
        refine zq_wg 3 (pc' := 45) (lv' := [some (.ref y1), some (.ref y2), some (.ref y3), some (.int y4), some (.int y5), some (.int y6), none, none, none, none]) (st' := [.int y6, .ref y3, .int y5, .ref v24]) (h' := h21) rfl ?_
        obtain ⟨e29, v27, h26, e28, hf⟩ := zo_v_s hf
        refine zr_cv zq_m71 [.int y6] [.int y5, .ref v24] rfl rfl rfl rfl rfl (Nat.le_of_ble_eq_true rfl) (Nat.le_of_ble_eq_true rfl) e29 (zx_State_postOf_ok sc d (by omega) e28) ?_
        refine zq_wg 0 (pc' := 48) (lv' := [some (.ref y1), some (.ref y2), some (.ref y3), some (.int y4), some (.int y5), some (.int y6), none, none, none, none]) (st' := [.int v27, .int y5, .ref v24]) (h' := h26) rfl ?_
        obtain ⟨w31, h30, e32, hf⟩ := zo_c_s hf
        refine zr_cs zq_m11 [.ref v24, .int y5, .int v27] [] rfl rfl (by decide) rfl rfl rfl (Nat.le_of_ble_eq_true rfl) (Nat.le_of_ble_eq_true rfl) (zx_put_ok sc d (by omega) e32) ?_
        refine zq_wg 0 (pc' := 51) (lv' := [some (.ref y1), some (.ref y2), some (.ref y3), some (.int y4), some (.int y5), some (.int y6), none, none, none, none]) (st' := []) (h' := h30) rfl ?_
        refine zq_wg 1 (pc' := 54) (lv' := [some (.ref y1), some (.ref y2), some (.ref y3), some (.int y4), some (.int (y5 + (1 : Int32))), some (.int y6), none, none, none, none]) (st' := []) (h' := h30) rfl ?_
        exact kj54_17 y1 y2 y3 y4 (y5 + (1 : Int32)) y6 h30 hf
      · have hf := zo_f hf b18
        exact kj54_17 y1 y2 y3 y4 y5 y6 h7 hf
set_option maxRecDepth 4000 in
theorem zx_Trade_worthOf_l103_ok (sc : zX) (d : Nat) (hd : 2 ≤ d) : ∀ (n : Nat) (y56 : Nat) (y57 : Nat) (y58 : Int32) (y59 : Int32) (y60 : Int32) (y61 : Int32) (y62 : Int32) (h63 : zH) (k168 : Nat → Nat → Int32 → Int32 → Int32 → zH → Option (Int32 × zH)) (ro_ : Int32) (ho_ : zH), (∀ (z0 : Nat) (z1 : Nat) (z2 : Int32) (z3 : Int32) (z4 : Int32) (hz : zH), k168 z0 z1 z2 z3 z4 hz = some (ro_, ho_) → zq_wp sc (d + 1) 119 168 [some (.ref z0), some (.ref z1), none, none, some (.int z2), some (.int z3), none, some (.int z4), none, none] [] hz (some (.int ro_), ho_)) → zx_Trade_worthOf_l103 sc n y56 y57 y58 y59 y60 y61 y62 h63 k168 = some (ro_, ho_) → zq_wp sc (d + 1) 119 103 [some (.ref y56), some (.ref y57), none, none, some (.int y58), some (.int y59), some (.int y60), some (.int y61), some (.int y62), none] [] h63 (some (.int ro_), ho_) := by
  intro n
  induction n with
  | zero => intro y56 y57 y58 y59 y60 y61 y62 h63 k168 ro_ ho_ hk168 hf; cases hf
  | succ n ih =>
    intro y56 y57 y58 y59 y60 y61 y62 h63 k168 ro_ ho_ hk168 hf
    refine zq_wg 2 (pc' := 107) (lv' := [some (.ref y56), some (.ref y57), none, none, some (.int y58), some (.int y59), some (.int y60), some (.int y61), some (.int y62), none]) (st' := [.int y58, .int y62]) (h' := h63) rfl ?_
    refine zr_if (y58 ≤ y62) 168 110 (st' := []) rfl rfl (fun b64 => ?_) (fun b64 => ?_)
    · have hf := zo_t hf b64
      refine zq_fg [some (.ref y56), some (.ref y57), none, none, some (.int y58), some (.int y59), none, some (.int y61), none, none] (zq_lvle_s (zq_lvle_s (zq_lvle_s (zq_lvle_s (zq_lvle_s (zq_lvle_s (zq_lvle_n (zq_lvle_s (zq_lvle_n (zq_lvle_s zq_lvle_nil)))))))))) ?_
      exact hk168 y56 y57 y58 y59 y61 h63 hf
    · have hf := zo_f hf b64
      refine zq_wg 6 (pc' := 118) (lv' := [some (.ref y56), some (.ref y57), none, none, some (.int y58), some (.int y59), some (.int y60), some (.int y61), some (.int y62), none]) (st' := [.int (1 : Int32), .int ((y59 >>> (y62 &&& 31)) &&& (1 : Int32))]) (h' := h63) rfl ?_
      obtain ⟨j162_72, hjj162_72, hf⟩ := zo_lj hf
      have kj162_72 : ∀ (x65 : Nat) (x66 : Nat) (x67 : Int32) (x68 : Int32) (x69 : Int32) (x70 : Int32) (x71 : Int32) (h72 : zH), j162_72 x65 x66 x67 x68 x69 x70 x71 h72 = some (ro_, ho_) → zq_wp sc (d + 1) 119 162 [some (.ref x65), some (.ref x66), none, none, some (.int x67), some (.int x68), some (.int x69), some (.int x70), some (.int x71), none] [] h72 (some (.int ro_), ho_) := by
        intro x65 x66 x67 x68 x69 x70 x71 h72 hf
        rw [hjj162_72] at hf
        refine zq_wg 2 (pc' := 103) (lv' := [some (.ref x65), some (.ref x66), none, none, some (.int x67), some (.int x68), some (.int x69), some (.int x70), some (.int (x71 + (1 : Int32))), none]) (st' := []) (h' := h72) rfl ?_
        exact ih x65 x66 x67 x68 x69 x70 (x71 + (1 : Int32)) h72 _ _ _ hk168 hf
      refine zr_if (((y59 >>> (y62 &&& 31)) &&& (1 : Int32)) = (1 : Int32)) 121 162 (st' := []) rfl rfl (fun b73 => ?_) (fun b73 => ?_)
      · have hf := zo_t hf b73
        refine zq_wg 1 (pc' := 122) (lv' := [some (.ref y56), some (.ref y57), none, none, some (.int y58), some (.int y59), some (.int y60), some (.int y61), some (.int y62), none]) (st' := [.ref y56]) (h' := h63) rfl ?_
        obtain ⟨v74, e75, hf⟩ := zo_b_s hf
        refine zr_gR rfl rfl (by decide) rfl e75 ?_
        refine zq_wg 5 (pc' := 132) (lv' := [some (.ref y56), some (.ref y57), none, none, some (.int y58), some (.int y59), some (.int y60), some (.int y61), some (.int y62), none]) (st' := [.int (y59 ^^^ ((1 : Int32) <<< (y62 &&& 31))), .ref v74]) (h' := h63) rfl ?_
        obtain ⟨v77, h76, e78, hf⟩ := zo_c_s hf
        refine zr_cs zq_m12 [.ref v74, .int (y59 ^^^ ((1 : Int32) <<< (y62 &&& 31)))] [] rfl rfl (by decide) rfl rfl rfl (Nat.le_of_ble_eq_true rfl) (Nat.le_of_ble_eq_true rfl) (zx_at_ok sc d (by omega) e78) ?_
        refine zq_wg 0 (pc' := 135) (lv' := [some (.ref y56), some (.ref y57), none, none, some (.int y58), some (.int y59), some (.int y60), some (.int y61), some (.int y62), none]) (st' := [.int v77]) (h' := h76) rfl ?_
        refine zq_wg 3 (pc' := 139) (lv' := [some (.ref y56), some (.ref y57), none, none, some (.int y58), some (.int y59), some (.int y60), some (.int y61), some (.int y62), none]) (st' := [.ref y56, .int y60, .ref y57, .int v77]) (h' := h76) rfl ?_
        obtain ⟨v79, e80, hf⟩ := zo_b_s hf
        refine zr_gR rfl rfl (by decide) rfl e80 ?_
        refine zq_wg 1 (pc' := 144) (lv' := [some (.ref y56), some (.ref y57), none, none, some (.int y58), some (.int y59), some (.int y60), some (.int y61), some (.int y62), none]) (st' := [.int y62, .ref v79, .int y60, .ref y57, .int v77]) (h' := h76) rfl ?_
        obtain ⟨v82, h81, e83, hf⟩ := zo_c_s hf
        refine zr_cs zq_m12 [.ref v79, .int y62] [.int y60, .ref y57, .int v77] rfl rfl (by decide) rfl rfl rfl (Nat.le_of_ble_eq_true rfl) (Nat.le_of_ble_eq_true rfl) (zx_at_ok sc d (by omega) e83) ?_
        refine zq_wg 0 (pc' := 147) (lv' := [some (.ref y56), some (.ref y57), none, none, some (.int y58), some (.int y59), some (.int y60), some (.int y61), some (.int y62), none]) (st' := [.int v82, .int y60, .ref y57, .int v77]) (h' := h81) rfl ?_
        obtain ⟨e87, v85, h84, e86, hf⟩ := zo_v_s hf
        refine zr_cv zq_m75 [.int y60, .int v82] [.int v77] rfl rfl rfl rfl rfl (Nat.le_of_ble_eq_true rfl) (Nat.le_of_ble_eq_true rfl) e87 (zx_Army_forceOf_ok sc d (by omega) e86) ?_
        refine zq_wg 0 (pc' := 150) (lv' := [some (.ref y56), some (.ref y57), none, none, some (.int y58), some (.int y59), some (.int y60), some (.int y61), some (.int y62), none]) (st' := [.int v85, .int v77]) (h' := h84) rfl ?_
        refine zq_wg 4 (pc' := 157) (lv' := [some (.ref y56), some (.ref y57), none, none, some (.int y58), some (.int y59), some (.int y60), some (.int y61), some (.int y62), some (.int (v77 + v85))]) (st' := [.int (v77 + v85), .int y61]) (h' := h84) rfl ?_
        refine zr_max rfl rfl (Nat.le_of_ble_eq_true rfl) ?_
        refine zq_wg 1 (pc' := 162) (lv' := [some (.ref y56), some (.ref y57), none, none, some (.int y58), some (.int y59), some (.int y60), some (.int (if y61 < (v77 + v85) then (v77 + v85) else y61)), some (.int y62), some (.int (v77 + v85))]) (st' := []) (h' := h84) rfl ?_
        refine zq_fg [some (.ref y56), some (.ref y57), none, none, some (.int y58), some (.int y59), some (.int y60), some (.int (if y61 < (v77 + v85) then (v77 + v85) else y61)), some (.int y62), none] (zq_lvle_s (zq_lvle_s (zq_lvle_s (zq_lvle_s (zq_lvle_s (zq_lvle_s (zq_lvle_s (zq_lvle_s (zq_lvle_s (zq_lvle_n zq_lvle_nil)))))))))) ?_
        exact kj162_72 y56 y57 y58 y59 y60 (if y61 < (v77 + v85) then (v77 + v85) else y61) y62 h84 hf
      · have hf := zo_f hf b73
        exact kj162_72 y56 y57 y58 y59 y60 y61 y62 h63 hf
set_option maxRecDepth 4000 in
theorem zx_Trade_worthOf_l72_ok (sc : zX) (d : Nat) (hd : 2 ≤ d) : ∀ (n : Nat) (y42 : Nat) (y43 : Nat) (y44 : Int32) (y45 : Int32) (h46 : zH) (k185 : Nat → Int32 → zH → Option (Int32 × zH)) (ro_ : Int32) (ho_ : zH), (∀ (z0 : Nat) (z1 : Int32) (hz : zH), k185 z0 z1 hz = some (ro_, ho_) → zq_wp sc (d + 1) 119 185 [some (.ref z0), none, none, none, some (.int z1), none, none, none, none, none] [] hz (some (.int ro_), ho_)) → zx_Trade_worthOf_l72 sc n y42 y43 y44 y45 h46 k185 = some (ro_, ho_) → zq_wp sc (d + 1) 119 72 [some (.ref y42), some (.ref y43), none, none, some (.int y44), some (.int y45), none, none, none, none] [] h46 (some (.int ro_), ho_) := by
  intro n
  induction n with
  | zero => intro y42 y43 y44 y45 h46 k185 ro_ ho_ hk185 hf; cases hf
  | succ n ih =>
    intro y42 y43 y44 y45 h46 k185 ro_ ho_ hk185 hf
    refine zq_wg 4 (pc' := 78) (lv' := [some (.ref y42), some (.ref y43), none, none, some (.int y44), some (.int y45), none, none, none, none]) (st' := [.int ((1 : Int32) <<< (y44 &&& 31)), .int y45]) (h' := h46) rfl ?_
    refine zr_if (((1 : Int32) <<< (y44 &&& 31)) ≤ y45) 185 81 (st' := []) rfl rfl (fun b47 => ?_) (fun b47 => ?_)
    · have hf := zo_t hf b47
      refine zq_fg [some (.ref y42), none, none, none, some (.int y44), none, none, none, none, none] (zq_lvle_s (zq_lvle_n (zq_lvle_s (zq_lvle_s (zq_lvle_s (zq_lvle_n (zq_lvle_s (zq_lvle_s (zq_lvle_s (zq_lvle_s zq_lvle_nil)))))))))) ?_
      exact hk185 y42 y44 h46 hf
    · have hf := zo_f hf b47
      refine zq_wg 1 (pc' := 82) (lv' := [some (.ref y42), some (.ref y43), none, none, some (.int y44), some (.int y45), none, none, none, none]) (st' := [.ref y42]) (h' := h46) rfl ?_
      obtain ⟨v48, e49, hf⟩ := zo_b_s hf
      refine zr_gR rfl rfl (by decide) rfl e49 ?_
      refine zq_wg 1 (pc' := 87) (lv' := [some (.ref y42), some (.ref y43), none, none, some (.int y44), some (.int y45), none, none, none, none]) (st' := [.int y45, .ref v48]) (h' := h46) rfl ?_
      obtain ⟨v51, h50, e52, hf⟩ := zo_c_s hf
      refine zr_cs zq_m120 [.int y45] [.ref v48] rfl rfl (by decide) rfl rfl rfl (Nat.le_of_ble_eq_true rfl) (Nat.le_of_ble_eq_true rfl) (zj_bitCount_ok sc d (by omega) e52) ?_
      refine zq_wg 0 (pc' := 90) (lv' := [some (.ref y42), some (.ref y43), none, none, some (.int y44), some (.int y45), none, none, none, none]) (st' := [.int v51, .ref v48]) (h' := h50) rfl ?_
      refine zq_wg 2 (pc' := 92) (lv' := [some (.ref y42), some (.ref y43), none, none, some (.int y44), some (.int y45), none, none, none, none]) (st' := [.int (v51 - (1 : Int32)), .ref v48]) (h' := h50) rfl ?_
      obtain ⟨v54, h53, e55, hf⟩ := zo_c_s hf
      refine zr_cs zq_m12 [.ref v48, .int (v51 - (1 : Int32))] [] rfl rfl (by decide) rfl rfl rfl (Nat.le_of_ble_eq_true rfl) (Nat.le_of_ble_eq_true rfl) (zx_at_ok sc d (by omega) e55) ?_
      refine zq_wg 0 (pc' := 95) (lv' := [some (.ref y42), some (.ref y43), none, none, some (.int y44), some (.int y45), none, none, none, none]) (st' := [.int v54]) (h' := h53) rfl ?_
      refine zq_wg 5 (pc' := 103) (lv' := [some (.ref y42), some (.ref y43), none, none, some (.int y44), some (.int y45), some (.int v54), some (.int (0 : Int32)), some (.int (0 : Int32)), none]) (st' := []) (h' := h53) rfl ?_
      refine zx_Trade_worthOf_l103_ok sc d hd zo_F y42 y43 y44 y45 v54 (0 : Int32) (0 : Int32) h53 _ _ _ ?_ hf
      · intro x88 x89 x90 x91 x92 h93 hf
        refine zq_wg 1 (pc' := 169) (lv' := [some (.ref x88), some (.ref x89), none, none, some (.int x90), some (.int x91), none, some (.int x92), none, none]) (st' := [.ref x88]) (h' := h93) rfl ?_
        obtain ⟨v94, e95, hf⟩ := zo_b_s hf
        refine zr_gR rfl rfl (by decide) rfl e95 ?_
        refine zq_wg 2 (pc' := 176) (lv' := [some (.ref x88), some (.ref x89), none, none, some (.int x90), some (.int x91), none, some (.int x92), none, none]) (st' := [.int x92, .int x91, .ref v94]) (h' := h93) rfl ?_
        obtain ⟨w97, h96, e98, hf⟩ := zo_c_s hf
        refine zr_cs zq_m11 [.ref v94, .int x91, .int x92] [] rfl rfl (by decide) rfl rfl rfl (Nat.le_of_ble_eq_true rfl) (Nat.le_of_ble_eq_true rfl) (zx_put_ok sc d (by omega) e98) ?_
        refine zq_wg 0 (pc' := 179) (lv' := [some (.ref x88), some (.ref x89), none, none, some (.int x90), some (.int x91), none, some (.int x92), none, none]) (st' := []) (h' := h96) rfl ?_
        refine zq_wg 2 (pc' := 72) (lv' := [some (.ref x88), some (.ref x89), none, none, some (.int x90), some (.int (x91 + (1 : Int32))), none, some (.int x92), none, none]) (st' := []) (h' := h96) rfl ?_
        refine zq_fg [some (.ref x88), some (.ref x89), none, none, some (.int x90), some (.int (x91 + (1 : Int32))), none, none, none, none] (zq_lvle_s (zq_lvle_s (zq_lvle_s (zq_lvle_s (zq_lvle_s (zq_lvle_s (zq_lvle_s (zq_lvle_n (zq_lvle_s (zq_lvle_s zq_lvle_nil)))))))))) ?_
        exact ih x88 x89 x90 (x91 + (1 : Int32)) h96 _ _ _ hk185 hf
set_option maxRecDepth 4000 in
theorem zx_Trade_worthOf_ok (sc : zX) (d : Nat) (hd : 3 ≤ d) {a0 : Nat} {a1 : Nat} {a2 : Nat} {a3 : Int32} {h : zH} {ro_ : Int32} {ho_ : zH} (hf : zx_Trade_worthOf sc a0 a1 a2 a3 h = some (ro_, ho_)) : zq_wm sc d 119 [.ref a0, .ref a1, .ref a2, .int a3] h (some (.int ro_), ho_) := by
  unfold zx_Trade_worthOf at hf
  obtain ⟨d, rfl⟩ : ∃ d', d = d' + 1 := ⟨d - 1, by omega⟩
  have hd : 2 ≤ d := by omega
  show zq_wp sc (d + 1) 119 0 [some (.ref a0), some (.ref a1), some (.ref a2), some (.int a3), none, none, none, none, none, none] [] h _
  refine zq_wg 4 (pc' := 6) (lv' := [some (.ref a0), some (.ref a1), some (.ref a2), some (.int a3), some (.int (0 : Int32)), some (.int (0 : Int32)), none, none, none, none]) (st' := []) (h' := h) rfl ?_
  refine zx_Trade_worthOf_l6_ok sc d hd zo_F a0 a1 a2 a3 (0 : Int32) (0 : Int32) h _ _ _ ?_ hf
  · intro x33 x34 x35 h36 hf
    refine zq_wg 1 (pc' := 61) (lv' := [some (.ref x33), some (.ref x34), none, none, some (.int x35), none, none, none, none, none]) (st' := [.ref x33]) (h' := h36) rfl ?_
    obtain ⟨v37, e38, hf⟩ := zo_b_s hf
    refine zr_gR rfl rfl (by decide) rfl e38 ?_
    refine zq_wg 2 (pc' := 66) (lv' := [some (.ref x33), some (.ref x34), none, none, some (.int x35), none, none, none, none, none]) (st' := [.int (0 : Int32), .int (0 : Int32), .ref v37]) (h' := h36) rfl ?_
    obtain ⟨w40, h39, e41, hf⟩ := zo_c_s hf
    refine zr_cs zq_m11 [.ref v37, .int (0 : Int32), .int (0 : Int32)] [] rfl rfl (by decide) rfl rfl rfl (Nat.le_of_ble_eq_true rfl) (Nat.le_of_ble_eq_true rfl) (zx_put_ok sc d (by omega) e41) ?_
    refine zq_wg 0 (pc' := 69) (lv' := [some (.ref x33), some (.ref x34), none, none, some (.int x35), none, none, none, none, none]) (st' := []) (h' := h39) rfl ?_
    refine zq_wg 2 (pc' := 72) (lv' := [some (.ref x33), some (.ref x34), none, none, some (.int x35), some (.int (1 : Int32)), none, none, none, none]) (st' := []) (h' := h39) rfl ?_
    refine zx_Trade_worthOf_l72_ok sc d hd zo_F x33 x34 x35 (1 : Int32) h39 _ _ _ ?_ hf
    · intro x99 x100 h101 hf
      refine zq_wg 1 (pc' := 186) (lv' := [some (.ref x99), none, none, none, some (.int x100), none, none, none, none, none]) (st' := [.ref x99]) (h' := h101) rfl ?_
      obtain ⟨v102, e103, hf⟩ := zo_b_s hf
      refine zr_gR rfl rfl (by decide) rfl e103 ?_
      refine zq_wg 5 (pc' := 195) (lv' := [some (.ref x99), none, none, none, some (.int x100), none, none, none, none, none]) (st' := [.int (((1 : Int32) <<< (x100 &&& 31)) - (1 : Int32)), .ref v102]) (h' := h101) rfl ?_
      obtain ⟨v105, h104, e106, hf⟩ := zo_c_s hf
      refine zr_cs zq_m12 [.ref v102, .int (((1 : Int32) <<< (x100 &&& 31)) - (1 : Int32))] [] rfl rfl (by decide) rfl rfl rfl (Nat.le_of_ble_eq_true rfl) (Nat.le_of_ble_eq_true rfl) (zx_at_ok sc d (by omega) e106) ?_
      refine zq_wg 0 (pc' := 198) (lv' := [some (.ref x99), none, none, none, some (.int x100), none, none, none, none, none]) (st' := [.int v105]) (h' := h104) rfl ?_
      exact zr_ri rfl rfl rfl hf
set_option maxRecDepth 4000 in
def zx_pool (sc : zX) (a0 : Nat) (a1 : Int32) (h : zH) : Option (Int32 × zH) := zo_v h a0 9 (zx_canPool sc a0 a1 h) (fun v2 h1 => if v2 = 0 then (some ((-1 : Int32), h1)) else (zo_b (zo_gR h1 9 a0 5) (fun v6 => zo_b (zo_gR h1 9 a0 11) (fun v8 => zo_b (zo_gR h1 9 a0 1) (fun v10 => zo_v h1 v6 6 (zx_Trade_worthOf sc v6 v8 v10 a1 h1) (fun v13 h12 => some (v13, h12)))))))
set_option maxRecDepth 4000 in
theorem zx_pool_ok (sc : zX) (d : Nat) (hd : 4 ≤ d) {a0 : Nat} {a1 : Int32} {h : zH} {ro_ : Int32} {ho_ : zH} (hf : zx_pool sc a0 a1 h = some (ro_, ho_)) : zq_wm sc d 117 [.ref a0, .int a1] h (some (.int ro_), ho_) := by
  unfold zx_pool at hf
  obtain ⟨d, rfl⟩ : ∃ d', d = d' + 1 := ⟨d - 1, by omega⟩
  have hd : 3 ≤ d := by omega
  show zq_wp sc (d + 1) 117 0 [some (.ref a0), some (.int a1)] [] h _
  refine zq_wg 2 (pc' := 2) (lv' := [some (.ref a0), some (.int a1)]) (st' := [.int a1, .ref a0]) (h' := h) rfl ?_
  obtain ⟨e4, v2, h1, e3, hf⟩ := zo_v_s hf
  refine zr_cv zq_m118 [.int a1] [] rfl rfl rfl rfl rfl (Nat.le_of_ble_eq_true rfl) (Nat.le_of_ble_eq_true rfl) e4 (zx_canPool_ok sc d (by omega) e3) ?_
  refine zq_wg 0 (pc' := 5) (lv' := [some (.ref a0), some (.int a1)]) (st' := [.int v2]) (h' := h1) rfl ?_
  refine zr_if (v2 = 0) 27 8 (st' := []) rfl rfl (fun b5 => ?_) (fun b5 => ?_)
  · have hf := zo_t hf b5
    refine zq_wg 1 (pc' := 28) (lv' := [some (.ref a0), some (.int a1)]) (st' := [.int (-1 : Int32)]) (h' := h1) rfl ?_
    exact zr_ri rfl rfl rfl hf
  · have hf := zo_f hf b5
    refine zq_wg 1 (pc' := 9) (lv' := [some (.ref a0), some (.int a1)]) (st' := [.ref a0]) (h' := h1) rfl ?_
    obtain ⟨v6, e7, hf⟩ := zo_b_s hf
    refine zr_gR rfl rfl (by decide) rfl e7 ?_
    refine zq_wg 1 (pc' := 13) (lv' := [some (.ref a0), some (.int a1)]) (st' := [.ref a0, .ref v6]) (h' := h1) rfl ?_
    obtain ⟨v8, e9, hf⟩ := zo_b_s hf
    refine zr_gR rfl rfl (by decide) rfl e9 ?_
    refine zq_wg 1 (pc' := 17) (lv' := [some (.ref a0), some (.int a1)]) (st' := [.ref a0, .ref v8, .ref v6]) (h' := h1) rfl ?_
    obtain ⟨v10, e11, hf⟩ := zo_b_s hf
    refine zr_gR rfl rfl (by decide) rfl e11 ?_
    refine zq_wg 1 (pc' := 21) (lv' := [some (.ref a0), some (.int a1)]) (st' := [.int a1, .ref v10, .ref v8, .ref v6]) (h' := h1) rfl ?_
    obtain ⟨e15, v13, h12, e14, hf⟩ := zo_v_s hf
    refine zr_cv zq_m119 [.ref v8, .ref v10, .int a1] [] rfl rfl rfl rfl rfl (Nat.le_of_ble_eq_true rfl) (Nat.le_of_ble_eq_true rfl) e15 (zx_Trade_worthOf_ok sc d (by omega) e14) ?_
    refine zq_wg 0 (pc' := 24) (lv' := [some (.ref a0), some (.int a1)]) (st' := [.int v13]) (h' := h12) rfl ?_
    refine zq_wg 1 (pc' := 28) (lv' := [some (.ref a0), some (.int a1)]) (st' := [.int v13]) (h' := h12) rfl ?_
    exact zr_ri rfl rfl rfl hf
set_option maxRecDepth 4000 in
def zx_Trade_rowsOf_l4 (sc : zX) : Nat → Int32 → Int64 → Int32 → zH → Option (Int64 × zH)
  | 0, _, _, _, _ => none
  | n + 1, y1, y2, y3, h4 => if y1 < y3 then (some (y2, h4)) else (zx_Trade_rowsOf_l4 sc n y1 (y2 * y3.toInt64) (y3 + (1 : Int32)) h4 )
set_option maxRecDepth 4000 in
def zx_Trade_rowsOf (sc : zX) (a0 : Int32) (h : zH) : Option (Int64 × zH) := zx_Trade_rowsOf_l4 sc zo_F a0 (1 : Int64) (2 : Int32) h 
set_option maxRecDepth 4000 in
theorem zx_Trade_rowsOf_l4_ok (sc : zX) (d : Nat) : ∀ (n : Nat) (y1 : Int32) (y2 : Int64) (y3 : Int32) (h4 : zH) (ro_ : Int64) (ho_ : zH),  zx_Trade_rowsOf_l4 sc n y1 y2 y3 h4  = some (ro_, ho_) → zq_wp sc d 123 4 [some (.int y1), some (.long y2), none, some (.int y3)] [] h4 (some (.long ro_), ho_) := by
  intro n
  induction n with
  | zero => intro y1 y2 y3 h4 ro_ ho_ hf; cases hf
  | succ n ih =>
    intro y1 y2 y3 h4 ro_ ho_ hf
    refine zq_wg 2 (pc' := 6) (lv' := [some (.int y1), some (.long y2), none, some (.int y3)]) (st' := [.int y1, .int y3]) (h' := h4) rfl ?_
    refine zr_if (y1 < y3) 20 9 (st' := []) rfl rfl (fun b5 => ?_) (fun b5 => ?_)
    · have hf := zo_t hf b5
      refine zq_wg 1 (pc' := 21) (lv' := [some (.int y1), some (.long y2), none, some (.int y3)]) (st' := [.long y2]) (h' := h4) rfl ?_
      exact zr_rl rfl rfl hf
    · have hf := zo_f hf b5
      refine zq_wg 7 (pc' := 4) (lv' := [some (.int y1), some (.long (y2 * y3.toInt64)), none, some (.int (y3 + (1 : Int32)))]) (st' := []) (h' := h4) rfl ?_
      exact ih y1 (y2 * y3.toInt64) (y3 + (1 : Int32)) h4 _ _ hf
set_option maxRecDepth 4000 in
theorem zx_Trade_rowsOf_ok (sc : zX) (d : Nat) (hd : 0 ≤ d) {a0 : Int32} {h : zH} {ro_ : Int64} {ho_ : zH} (hf : zx_Trade_rowsOf sc a0 h = some (ro_, ho_)) : zq_wm sc d 123 [.int a0] h (some (.long ro_), ho_) := by
  unfold zx_Trade_rowsOf at hf
  show zq_wp sc d 123 0 [some (.int a0), none, none, none] [] h _
  refine zq_wg 4 (pc' := 4) (lv' := [some (.int a0), some (.long (1 : Int64)), none, some (.int (2 : Int32))]) (st' := []) (h' := h) rfl ?_
  refine zx_Trade_rowsOf_l4_ok sc d zo_F a0 (1 : Int64) (2 : Int32) h _ _ hf
set_option maxRecDepth 4000 in
def zx_Trade_shareOf_l3 (sc : zX) : Nat → Nat → Nat → Nat → Int32 → Int32 → Int32 → zH → (Nat → Int32 → Int32 → zH → Option (Int32 × zH)) → Option (Int32 × zH)
  | 0, _, _, _, _, _, _, _, _ => none
  | n + 1, y1, y2, y3, y4, y5, y6, h7, k46 => if (64 : Int32) ≤ y6 then (k46 y1 y4 y5 h7) else (zo_b (zo_gR h7 6 y1 4) (fun v9 => zo_l (fun (x11 : Nat) (x12 : Nat) (x13 : Nat) (x14 : Int32) (x15 : Int32) (x16 : Int32) (x17 : Nat) (x18 : Int32) (x19 : Int32) (h20 : zH) => zo_c (zx_put sc x17 x18 x19 h20) (fun w22 h21 => zx_Trade_shareOf_l3 sc n x11 x12 x13 x14 x15 (x16 + (1 : Int32)) h21 k46)) (fun j37_20 => if (y6 &&& (y4 ^^^ (-1 : Int32))) = 0 then (zo_v h7 y1 6 (zx_Trade_worthOf sc y1 y2 y3 y6 h7) (fun v26 h25 => j37_20 y1 y2 y3 y4 y5 y6 v9 y6 v26 h25)) else (j37_20 y1 y2 y3 y4 y5 y6 v9 y6 (0 : Int32) h7))))
set_option maxRecDepth 4000 in
def zx_Trade_shareOf_l58 (sc : zX) : Nat → Nat → Int32 → Int32 → Int32 → Int64 → Int32 → zH → (Int32 → Int64 → zH → Option (Int32 × zH)) → Option (Int32 × zH)
  | 0, _, _, _, _, _, _, _, _ => none
  | n + 1, y36, y37, y38, y39, y40, y41, h42, k160 => if (64 : Int32) ≤ y41 then (k160 y39 y40 h42) else (zo_l (fun (x44 : Nat) (x45 : Int32) (x46 : Int32) (x47 : Int32) (x48 : Int64) (x49 : Int32) (x50 : Int32) (h51 : zH) => zo_l (fun (x52 : Nat) (x53 : Int32) (x54 : Int32) (x55 : Int32) (x56 : Int64) (x57 : Int32) (h58 : zH) => zx_Trade_shareOf_l58 sc n x52 x53 x54 x55 x56 (x57 + (1 : Int32)) h58 k160) (fun j154_58 => if x50 = 0 then (j154_58 x44 x45 x46 x47 x48 x49 h51) else (zo_c (zj_bitCount sc x49 h51) (fun v61 h60 => zo_b (zo_gR h60 6 x44 4) (fun v63 => zo_c (zx_at sc v63 (x49 ||| ((1 : Int32) <<< (x46 &&& 31))) h60) (fun v66 h65 => zo_b (zo_gR h65 6 x44 4) (fun v68 => zo_c (zx_at sc v68 x49 h65) (fun v71 h70 => zo_c (zx_Trade_rowsOf sc v61 h70) (fun v74 h73 => zo_c (zx_Trade_rowsOf sc ((x47 - (1 : Int32)) - v61) h73) (fun v77 h76 => j154_58 x44 x45 x46 x47 (x48 + (((v66 - v71).toInt64 * v74) * v77)) x49 h76)))))))))) (fun j89_51 => zo_l (fun (x79 : Nat) (x80 : Int32) (x81 : Int32) (x82 : Int32) (x83 : Int64) (x84 : Int32) (h85 : zH) => j89_51 x79 x80 x81 x82 x83 x84 (0 : Int32) h85) (fun j88_85 => if (y41 &&& (y37 ^^^ (-1 : Int32))) = 0 then (if ((y41 >>> (y38 &&& 31)) &&& (1 : Int32)) = 0 then (j89_51 y36 y37 y38 y39 y40 y41 (1 : Int32) h42) else (j88_85 y36 y37 y38 y39 y40 y41 h42)) else (j88_85 y36 y37 y38 y39 y40 y41 h42))))
set_option maxRecDepth 4000 in
def zx_Trade_shareOf (sc : zX) (a0 : Nat) (a1 : Nat) (a2 : Nat) (a3 : Int32) (a4 : Int32) (h : zH) : Option (Int32 × zH) := zx_Trade_shareOf_l3 sc zo_F a0 a1 a2 a3 a4 (0 : Int32) h (fun (x29 : Nat) (x30 : Int32) (x31 : Int32) (h32 : zH) => zo_c (zj_bitCount sc x30 h32) (fun v34 h33 => zx_Trade_shareOf_l58 sc zo_F x29 x30 x31 v34 (0 : Int64) (0 : Int32) h33 (fun (x88 : Int32) (x89 : Int64) (h90 : zH) => zo_c (zx_Trade_rowsOf sc x88 h90) (fun v92 h91 => if (lg_cmp v92 (0 : Int64)) ≤ 0 then (some ((0 : Int32), h91)) else (zo_b (zo_dvL (x89 * (1000 : Int64)) v92) (fun v95 => some (v95.toInt32, h91)))))))
set_option maxRecDepth 4000 in
theorem zx_Trade_shareOf_l3_ok (sc : zX) (d : Nat) (hd : 3 ≤ d) : ∀ (n : Nat) (y1 : Nat) (y2 : Nat) (y3 : Nat) (y4 : Int32) (y5 : Int32) (y6 : Int32) (h7 : zH) (k46 : Nat → Int32 → Int32 → zH → Option (Int32 × zH)) (ro_ : Int32) (ho_ : zH), (∀ (z0 : Nat) (z1 : Int32) (z2 : Int32) (hz : zH), k46 z0 z1 z2 hz = some (ro_, ho_) → zq_wp sc (d + 1) 122 46 [some (.ref z0), none, none, some (.int z1), some (.int z2), none, none, none, none, none, none, none] [] hz (some (.int ro_), ho_)) → zx_Trade_shareOf_l3 sc n y1 y2 y3 y4 y5 y6 h7 k46 = some (ro_, ho_) → zq_wp sc (d + 1) 122 3 [some (.ref y1), some (.ref y2), some (.ref y3), some (.int y4), some (.int y5), some (.int y6), none, none, none, none, none, none] [] h7 (some (.int ro_), ho_) := by
  intro n
  induction n with
  | zero => intro y1 y2 y3 y4 y5 y6 h7 k46 ro_ ho_ hk46 hf; cases hf
  | succ n ih =>
    intro y1 y2 y3 y4 y5 y6 h7 k46 ro_ ho_ hk46 hf
    refine zq_wg 2 (pc' := 7) (lv' := [some (.ref y1), some (.ref y2), some (.ref y3), some (.int y4), some (.int y5), some (.int y6), none, none, none, none, none, none]) (st' := [.int (64 : Int32), .int y6]) (h' := h7) rfl ?_
    refine zr_if ((64 : Int32) ≤ y6) 46 10 (st' := []) rfl rfl (fun b8 => ?_) (fun b8 => ?_)
    · have hf := zo_t hf b8
      refine zq_fg [some (.ref y1), none, none, some (.int y4), some (.int y5), none, none, none, none, none, none, none] (zq_lvle_s (zq_lvle_n (zq_lvle_n (zq_lvle_s (zq_lvle_s (zq_lvle_n (zq_lvle_s (zq_lvle_s (zq_lvle_s (zq_lvle_s (zq_lvle_s (zq_lvle_s zq_lvle_nil)))))))))))) ?_
      exact hk46 y1 y4 y5 h7 hf
    · have hf := zo_f hf b8
      refine zq_wg 1 (pc' := 11) (lv' := [some (.ref y1), some (.ref y2), some (.ref y3), some (.int y4), some (.int y5), some (.int y6), none, none, none, none, none, none]) (st' := [.ref y1]) (h' := h7) rfl ?_
      obtain ⟨v9, e10, hf⟩ := zo_b_s hf
      refine zr_gR rfl rfl (by decide) rfl e10 ?_
      refine zq_wg 6 (pc' := 22) (lv' := [some (.ref y1), some (.ref y2), some (.ref y3), some (.int y4), some (.int y5), some (.int y6), none, none, none, none, none, none]) (st' := [.int (y6 &&& (y4 ^^^ (-1 : Int32))), .int y6, .ref v9]) (h' := h7) rfl ?_
      obtain ⟨j37_20, hjj37_20, hf⟩ := zo_lj hf
      have kj37_20 : ∀ (x11 : Nat) (x12 : Nat) (x13 : Nat) (x14 : Int32) (x15 : Int32) (x16 : Int32) (x17 : Nat) (x18 : Int32) (x19 : Int32) (h20 : zH), j37_20 x11 x12 x13 x14 x15 x16 x17 x18 x19 h20 = some (ro_, ho_) → zq_wp sc (d + 1) 122 37 [some (.ref x11), some (.ref x12), some (.ref x13), some (.int x14), some (.int x15), some (.int x16), none, none, none, none, none, none] [.int x19, .int x18, .ref x17] h20 (some (.int ro_), ho_) := by
        intro x11 x12 x13 x14 x15 x16 x17 x18 x19 h20 hf
        rw [hjj37_20] at hf
        obtain ⟨w22, h21, e23, hf⟩ := zo_c_s hf
        refine zr_cs zq_m11 [.ref x17, .int x18, .int x19] [] rfl rfl (by decide) rfl rfl rfl (Nat.le_of_ble_eq_true rfl) (Nat.le_of_ble_eq_true rfl) (zx_put_ok sc d (by omega) e23) ?_
        refine zq_wg 0 (pc' := 40) (lv' := [some (.ref x11), some (.ref x12), some (.ref x13), some (.int x14), some (.int x15), some (.int x16), none, none, none, none, none, none]) (st' := []) (h' := h21) rfl ?_
        refine zq_wg 2 (pc' := 3) (lv' := [some (.ref x11), some (.ref x12), some (.ref x13), some (.int x14), some (.int x15), some (.int (x16 + (1 : Int32))), none, none, none, none, none, none]) (st' := []) (h' := h21) rfl ?_
        exact ih x11 x12 x13 x14 x15 (x16 + (1 : Int32)) h21 _ _ _ hk46 hf
      refine zr_if ((y6 &&& (y4 ^^^ (-1 : Int32))) = 0) 25 36 (st' := [.int y6, .ref v9]) rfl rfl (fun b24 => ?_) (fun b24 => ?_)
      · have hf := zo_t hf b24
        refine zq_wg 4 (pc' := 30) (lv' := [some (.ref y1), some (.ref y2), some (.ref y3), some (.int y4), some (.int y5), some (.int y6), none, none, none, none, none, none]) (st' := [.int y6, .ref y3, .ref y2, .ref y1, .int y6, .ref v9]) (h' := h7) rfl ?_
        obtain ⟨e28, v26, h25, e27, hf⟩ := zo_v_s hf
        refine zr_cv zq_m119 [.ref y2, .ref y3, .int y6] [.int y6, .ref v9] rfl rfl rfl rfl rfl (Nat.le_of_ble_eq_true rfl) (Nat.le_of_ble_eq_true rfl) e28 (zx_Trade_worthOf_ok sc d (by omega) e27) ?_
        refine zq_wg 0 (pc' := 33) (lv' := [some (.ref y1), some (.ref y2), some (.ref y3), some (.int y4), some (.int y5), some (.int y6), none, none, none, none, none, none]) (st' := [.int v26, .int y6, .ref v9]) (h' := h25) rfl ?_
        refine zq_wg 1 (pc' := 37) (lv' := [some (.ref y1), some (.ref y2), some (.ref y3), some (.int y4), some (.int y5), some (.int y6), none, none, none, none, none, none]) (st' := [.int v26, .int y6, .ref v9]) (h' := h25) rfl ?_
        exact kj37_20 y1 y2 y3 y4 y5 y6 v9 y6 v26 h25 hf
      · have hf := zo_f hf b24
        refine zq_wg 1 (pc' := 37) (lv' := [some (.ref y1), some (.ref y2), some (.ref y3), some (.int y4), some (.int y5), some (.int y6), none, none, none, none, none, none]) (st' := [.int (0 : Int32), .int y6, .ref v9]) (h' := h7) rfl ?_
        exact kj37_20 y1 y2 y3 y4 y5 y6 v9 y6 (0 : Int32) h7 hf
set_option maxRecDepth 4000 in
theorem zx_Trade_shareOf_l58_ok (sc : zX) (d : Nat) (hd : 3 ≤ d) : ∀ (n : Nat) (y36 : Nat) (y37 : Int32) (y38 : Int32) (y39 : Int32) (y40 : Int64) (y41 : Int32) (h42 : zH) (k160 : Int32 → Int64 → zH → Option (Int32 × zH)) (ro_ : Int32) (ho_ : zH), (∀ (z0 : Int32) (z1 : Int64) (hz : zH), k160 z0 z1 hz = some (ro_, ho_) → zq_wp sc (d + 1) 122 160 [none, none, none, none, none, some (.int z0), some (.long z1), none, none, none, none, none] [] hz (some (.int ro_), ho_)) → zx_Trade_shareOf_l58 sc n y36 y37 y38 y39 y40 y41 h42 k160 = some (ro_, ho_) → zq_wp sc (d + 1) 122 58 [some (.ref y36), none, none, some (.int y37), some (.int y38), some (.int y39), some (.long y40), none, some (.int y41), none, none, none] [] h42 (some (.int ro_), ho_) := by
  intro n
  induction n with
  | zero => intro y36 y37 y38 y39 y40 y41 h42 k160 ro_ ho_ hk160 hf; cases hf
  | succ n ih =>
    intro y36 y37 y38 y39 y40 y41 h42 k160 ro_ ho_ hk160 hf
    refine zq_wg 2 (pc' := 62) (lv' := [some (.ref y36), none, none, some (.int y37), some (.int y38), some (.int y39), some (.long y40), none, some (.int y41), none, none, none]) (st' := [.int (64 : Int32), .int y41]) (h' := h42) rfl ?_
    refine zr_if ((64 : Int32) ≤ y41) 160 65 (st' := []) rfl rfl (fun b43 => ?_) (fun b43 => ?_)
    · have hf := zo_t hf b43
      refine zq_fg [none, none, none, none, none, some (.int y39), some (.long y40), none, none, none, none, none] (zq_lvle_n (zq_lvle_s (zq_lvle_s (zq_lvle_n (zq_lvle_n (zq_lvle_s (zq_lvle_s (zq_lvle_s (zq_lvle_n (zq_lvle_s (zq_lvle_s (zq_lvle_s zq_lvle_nil)))))))))))) ?_
      exact hk160 y39 y40 h42 hf
    · have hf := zo_f hf b43
      refine zq_wg 5 (pc' := 71) (lv' := [some (.ref y36), none, none, some (.int y37), some (.int y38), some (.int y39), some (.long y40), none, some (.int y41), none, none, none]) (st' := [.int (y41 &&& (y37 ^^^ (-1 : Int32)))]) (h' := h42) rfl ?_
      obtain ⟨j89_51, hjj89_51, hf⟩ := zo_lj hf
      have kj89_51 : ∀ (x44 : Nat) (x45 : Int32) (x46 : Int32) (x47 : Int32) (x48 : Int64) (x49 : Int32) (x50 : Int32) (h51 : zH), j89_51 x44 x45 x46 x47 x48 x49 x50 h51 = some (ro_, ho_) → zq_wp sc (d + 1) 122 89 [some (.ref x44), none, none, some (.int x45), some (.int x46), some (.int x47), some (.long x48), none, some (.int x49), none, none, none] [.int x50] h51 (some (.int ro_), ho_) := by
        intro x44 x45 x46 x47 x48 x49 x50 h51 hf
        rw [hjj89_51] at hf
        refine zq_wg 2 (pc' := 93) (lv' := [some (.ref x44), none, none, some (.int x45), some (.int x46), some (.int x47), some (.long x48), none, some (.int x49), some (.int x50), none, none]) (st' := [.int x50]) (h' := h51) rfl ?_
        obtain ⟨j154_58, hjj154_58, hf⟩ := zo_lj hf
        have kj154_58 : ∀ (x52 : Nat) (x53 : Int32) (x54 : Int32) (x55 : Int32) (x56 : Int64) (x57 : Int32) (h58 : zH), j154_58 x52 x53 x54 x55 x56 x57 h58 = some (ro_, ho_) → zq_wp sc (d + 1) 122 154 [some (.ref x52), none, none, some (.int x53), some (.int x54), some (.int x55), some (.long x56), none, some (.int x57), none, none, none] [] h58 (some (.int ro_), ho_) := by
          intro x52 x53 x54 x55 x56 x57 h58 hf
          rw [hjj154_58] at hf
          refine zq_wg 2 (pc' := 58) (lv' := [some (.ref x52), none, none, some (.int x53), some (.int x54), some (.int x55), some (.long x56), none, some (.int (x57 + (1 : Int32))), none, none, none]) (st' := []) (h' := h58) rfl ?_
          exact ih x52 x53 x54 x55 x56 (x57 + (1 : Int32)) h58 _ _ _ hk160 hf
        refine zr_if (x50 = 0) 154 96 (st' := []) rfl rfl (fun b59 => ?_) (fun b59 => ?_)
        · have hf := zo_t hf b59
          refine zq_fg [some (.ref x44), none, none, some (.int x45), some (.int x46), some (.int x47), some (.long x48), none, some (.int x49), none, none, none] (zq_lvle_s (zq_lvle_s (zq_lvle_s (zq_lvle_s (zq_lvle_s (zq_lvle_s (zq_lvle_s (zq_lvle_s (zq_lvle_s (zq_lvle_n (zq_lvle_s (zq_lvle_s zq_lvle_nil)))))))))))) ?_
          exact kj154_58 x44 x45 x46 x47 x48 x49 h51 hf
        · have hf := zo_f hf b59
          refine zq_wg 1 (pc' := 98) (lv' := [some (.ref x44), none, none, some (.int x45), some (.int x46), some (.int x47), some (.long x48), none, some (.int x49), some (.int x50), none, none]) (st' := [.int x49]) (h' := h51) rfl ?_
          obtain ⟨v61, h60, e62, hf⟩ := zo_c_s hf
          refine zr_cs zq_m120 [.int x49] [] rfl rfl (by decide) rfl rfl rfl (Nat.le_of_ble_eq_true rfl) (Nat.le_of_ble_eq_true rfl) (zj_bitCount_ok sc d (by omega) e62) ?_
          refine zq_wg 0 (pc' := 101) (lv' := [some (.ref x44), none, none, some (.int x45), some (.int x46), some (.int x47), some (.long x48), none, some (.int x49), some (.int x50), none, none]) (st' := [.int v61]) (h' := h60) rfl ?_
          refine zq_wg 2 (pc' := 104) (lv' := [some (.ref x44), none, none, some (.int x45), some (.int x46), some (.int x47), some (.long x48), none, some (.int x49), some (.int x50), some (.int v61), none]) (st' := [.ref x44]) (h' := h60) rfl ?_
          obtain ⟨v63, e64, hf⟩ := zo_b_s hf
          refine zr_gR rfl rfl (by decide) rfl e64 ?_
          refine zq_wg 5 (pc' := 114) (lv' := [some (.ref x44), none, none, some (.int x45), some (.int x46), some (.int x47), some (.long x48), none, some (.int x49), some (.int x50), some (.int v61), none]) (st' := [.int (x49 ||| ((1 : Int32) <<< (x46 &&& 31))), .ref v63]) (h' := h60) rfl ?_
          obtain ⟨v66, h65, e67, hf⟩ := zo_c_s hf
          refine zr_cs zq_m12 [.ref v63, .int (x49 ||| ((1 : Int32) <<< (x46 &&& 31)))] [] rfl rfl (by decide) rfl rfl rfl (Nat.le_of_ble_eq_true rfl) (Nat.le_of_ble_eq_true rfl) (zx_at_ok sc d (by omega) e67) ?_
          refine zq_wg 0 (pc' := 117) (lv' := [some (.ref x44), none, none, some (.int x45), some (.int x46), some (.int x47), some (.long x48), none, some (.int x49), some (.int x50), some (.int v61), none]) (st' := [.int v66]) (h' := h65) rfl ?_
          refine zq_wg 1 (pc' := 118) (lv' := [some (.ref x44), none, none, some (.int x45), some (.int x46), some (.int x47), some (.long x48), none, some (.int x49), some (.int x50), some (.int v61), none]) (st' := [.ref x44, .int v66]) (h' := h65) rfl ?_
          obtain ⟨v68, e69, hf⟩ := zo_b_s hf
          refine zr_gR rfl rfl (by decide) rfl e69 ?_
          refine zq_wg 1 (pc' := 123) (lv' := [some (.ref x44), none, none, some (.int x45), some (.int x46), some (.int x47), some (.long x48), none, some (.int x49), some (.int x50), some (.int v61), none]) (st' := [.int x49, .ref v68, .int v66]) (h' := h65) rfl ?_
          obtain ⟨v71, h70, e72, hf⟩ := zo_c_s hf
          refine zr_cs zq_m12 [.ref v68, .int x49] [.int v66] rfl rfl (by decide) rfl rfl rfl (Nat.le_of_ble_eq_true rfl) (Nat.le_of_ble_eq_true rfl) (zx_at_ok sc d (by omega) e72) ?_
          refine zq_wg 0 (pc' := 126) (lv' := [some (.ref x44), none, none, some (.int x45), some (.int x46), some (.int x47), some (.long x48), none, some (.int x49), some (.int x50), some (.int v61), none]) (st' := [.int v71, .int v66]) (h' := h70) rfl ?_
          refine zq_wg 6 (pc' := 136) (lv' := [some (.ref x44), none, none, some (.int x45), some (.int x46), some (.int x47), some (.long x48), none, some (.int x49), some (.int x50), some (.int v61), some (.int (v66 - v71))]) (st' := [.int v61, .long ((v66 - v71).toInt64), .long x48]) (h' := h70) rfl ?_
          obtain ⟨v74, h73, e75, hf⟩ := zo_c_s hf
          refine zr_cs zq_m123 [.int v61] [.long ((v66 - v71).toInt64), .long x48] rfl rfl (by decide) rfl rfl rfl (Nat.le_of_ble_eq_true rfl) (Nat.le_of_ble_eq_true rfl) (zx_Trade_rowsOf_ok sc d (by omega) e75) ?_
          refine zq_wg 0 (pc' := 139) (lv' := [some (.ref x44), none, none, some (.int x45), some (.int x46), some (.int x47), some (.long x48), none, some (.int x49), some (.int x50), some (.int v61), some (.int (v66 - v71))]) (st' := [.long v74, .long ((v66 - v71).toInt64), .long x48]) (h' := h73) rfl ?_
          refine zq_wg 6 (pc' := 147) (lv' := [some (.ref x44), none, none, some (.int x45), some (.int x46), some (.int x47), some (.long x48), none, some (.int x49), some (.int x50), some (.int v61), some (.int (v66 - v71))]) (st' := [.int ((x47 - (1 : Int32)) - v61), .long ((v66 - v71).toInt64 * v74), .long x48]) (h' := h73) rfl ?_
          obtain ⟨v77, h76, e78, hf⟩ := zo_c_s hf
          refine zr_cs zq_m123 [.int ((x47 - (1 : Int32)) - v61)] [.long ((v66 - v71).toInt64 * v74), .long x48] rfl rfl (by decide) rfl rfl rfl (Nat.le_of_ble_eq_true rfl) (Nat.le_of_ble_eq_true rfl) (zx_Trade_rowsOf_ok sc d (by omega) e78) ?_
          refine zq_wg 0 (pc' := 150) (lv' := [some (.ref x44), none, none, some (.int x45), some (.int x46), some (.int x47), some (.long x48), none, some (.int x49), some (.int x50), some (.int v61), some (.int (v66 - v71))]) (st' := [.long v77, .long ((v66 - v71).toInt64 * v74), .long x48]) (h' := h76) rfl ?_
          refine zq_wg 3 (pc' := 154) (lv' := [some (.ref x44), none, none, some (.int x45), some (.int x46), some (.int x47), some (.long (x48 + (((v66 - v71).toInt64 * v74) * v77))), none, some (.int x49), some (.int x50), some (.int v61), some (.int (v66 - v71))]) (st' := []) (h' := h76) rfl ?_
          refine zq_fg [some (.ref x44), none, none, some (.int x45), some (.int x46), some (.int x47), some (.long (x48 + (((v66 - v71).toInt64 * v74) * v77))), none, some (.int x49), none, none, none] (zq_lvle_s (zq_lvle_s (zq_lvle_s (zq_lvle_s (zq_lvle_s (zq_lvle_s (zq_lvle_s (zq_lvle_s (zq_lvle_s (zq_lvle_n (zq_lvle_n (zq_lvle_n zq_lvle_nil)))))))))))) ?_
          exact kj154_58 x44 x45 x46 x47 (x48 + (((v66 - v71).toInt64 * v74) * v77)) x49 h76 hf
      obtain ⟨j88_85, hjj88_85, hf⟩ := zo_lj hf
      have kj88_85 : ∀ (x79 : Nat) (x80 : Int32) (x81 : Int32) (x82 : Int32) (x83 : Int64) (x84 : Int32) (h85 : zH), j88_85 x79 x80 x81 x82 x83 x84 h85 = some (ro_, ho_) → zq_wp sc (d + 1) 122 88 [some (.ref x79), none, none, some (.int x80), some (.int x81), some (.int x82), some (.long x83), none, some (.int x84), none, none, none] [] h85 (some (.int ro_), ho_) := by
        intro x79 x80 x81 x82 x83 x84 h85 hf
        rw [hjj88_85] at hf
        refine zq_wg 1 (pc' := 89) (lv' := [some (.ref x79), none, none, some (.int x80), some (.int x81), some (.int x82), some (.long x83), none, some (.int x84), none, none, none]) (st' := [.int (0 : Int32)]) (h' := h85) rfl ?_
        exact kj89_51 x79 x80 x81 x82 x83 x84 (0 : Int32) h85 hf
      refine zr_if ((y41 &&& (y37 ^^^ (-1 : Int32))) = 0) 74 88 (st' := []) rfl rfl (fun b86 => ?_) (fun b86 => ?_)
      · have hf := zo_t hf b86
        refine zq_wg 5 (pc' := 81) (lv' := [some (.ref y36), none, none, some (.int y37), some (.int y38), some (.int y39), some (.long y40), none, some (.int y41), none, none, none]) (st' := [.int ((y41 >>> (y38 &&& 31)) &&& (1 : Int32))]) (h' := h42) rfl ?_
        refine zr_if (((y41 >>> (y38 &&& 31)) &&& (1 : Int32)) = 0) 84 88 (st' := []) rfl rfl (fun b87 => ?_) (fun b87 => ?_)
        · have hf := zo_t hf b87
          refine zq_wg 2 (pc' := 89) (lv' := [some (.ref y36), none, none, some (.int y37), some (.int y38), some (.int y39), some (.long y40), none, some (.int y41), none, none, none]) (st' := [.int (1 : Int32)]) (h' := h42) rfl ?_
          exact kj89_51 y36 y37 y38 y39 y40 y41 (1 : Int32) h42 hf
        · have hf := zo_f hf b87
          exact kj88_85 y36 y37 y38 y39 y40 y41 h42 hf
      · have hf := zo_f hf b86
        exact kj88_85 y36 y37 y38 y39 y40 y41 h42 hf
set_option maxRecDepth 4000 in
theorem zx_Trade_shareOf_ok (sc : zX) (d : Nat) (hd : 4 ≤ d) {a0 : Nat} {a1 : Nat} {a2 : Nat} {a3 : Int32} {a4 : Int32} {h : zH} {ro_ : Int32} {ho_ : zH} (hf : zx_Trade_shareOf sc a0 a1 a2 a3 a4 h = some (ro_, ho_)) : zq_wm sc d 122 [.ref a0, .ref a1, .ref a2, .int a3, .int a4] h (some (.int ro_), ho_) := by
  unfold zx_Trade_shareOf at hf
  obtain ⟨d, rfl⟩ : ∃ d', d = d' + 1 := ⟨d - 1, by omega⟩
  have hd : 3 ≤ d := by omega
  show zq_wp sc (d + 1) 122 0 [some (.ref a0), some (.ref a1), some (.ref a2), some (.int a3), some (.int a4), none, none, none, none, none, none, none] [] h _
  refine zq_wg 2 (pc' := 3) (lv' := [some (.ref a0), some (.ref a1), some (.ref a2), some (.int a3), some (.int a4), some (.int (0 : Int32)), none, none, none, none, none, none]) (st' := []) (h' := h) rfl ?_
  refine zx_Trade_shareOf_l3_ok sc d hd zo_F a0 a1 a2 a3 a4 (0 : Int32) h _ _ _ ?_ hf
  · intro x29 x30 x31 h32 hf
    refine zq_wg 1 (pc' := 47) (lv' := [some (.ref x29), none, none, some (.int x30), some (.int x31), none, none, none, none, none, none, none]) (st' := [.int x30]) (h' := h32) rfl ?_
    obtain ⟨v34, h33, e35, hf⟩ := zo_c_s hf
    refine zr_cs zq_m120 [.int x30] [] rfl rfl (by decide) rfl rfl rfl (Nat.le_of_ble_eq_true rfl) (Nat.le_of_ble_eq_true rfl) (zj_bitCount_ok sc d (by omega) e35) ?_
    refine zq_wg 0 (pc' := 50) (lv' := [some (.ref x29), none, none, some (.int x30), some (.int x31), none, none, none, none, none, none, none]) (st' := [.int v34]) (h' := h33) rfl ?_
    refine zq_wg 5 (pc' := 58) (lv' := [some (.ref x29), none, none, some (.int x30), some (.int x31), some (.int v34), some (.long (0 : Int64)), none, some (.int (0 : Int32)), none, none, none]) (st' := []) (h' := h33) rfl ?_
    refine zx_Trade_shareOf_l58_ok sc d hd zo_F x29 x30 x31 v34 (0 : Int64) (0 : Int32) h33 _ _ _ ?_ hf
    · intro x88 x89 h90 hf
      refine zq_wg 1 (pc' := 162) (lv' := [none, none, none, none, none, some (.int x88), some (.long x89), none, none, none, none, none]) (st' := [.int x88]) (h' := h90) rfl ?_
      obtain ⟨v92, h91, e93, hf⟩ := zo_c_s hf
      refine zr_cs zq_m123 [.int x88] [] rfl rfl (by decide) rfl rfl rfl (Nat.le_of_ble_eq_true rfl) (Nat.le_of_ble_eq_true rfl) (zx_Trade_rowsOf_ok sc d (by omega) e93) ?_
      refine zq_wg 0 (pc' := 165) (lv' := [none, none, none, none, none, some (.int x88), some (.long x89), none, none, none, none, none]) (st' := [.long v92]) (h' := h91) rfl ?_
      refine zq_wg 4 (pc' := 171) (lv' := [none, none, none, none, none, some (.int x88), some (.long x89), none, some (.long v92), none, none, none]) (st' := [.int (lg_cmp v92 (0 : Int64))]) (h' := h91) rfl ?_
      refine zr_if ((lg_cmp v92 (0 : Int64)) ≤ 0) 187 174 (st' := []) rfl rfl (fun b94 => ?_) (fun b94 => ?_)
      · have hf := zo_t hf b94
        refine zq_wg 1 (pc' := 188) (lv' := [none, none, none, none, none, some (.int x88), some (.long x89), none, some (.long v92), none, none, none]) (st' := [.int (0 : Int32)]) (h' := h91) rfl ?_
        exact zr_ri rfl rfl rfl hf
      · have hf := zo_f hf b94
        refine zq_wg 4 (pc' := 182) (lv' := [none, none, none, none, none, some (.int x88), some (.long x89), none, some (.long v92), none, none, none]) (st' := [.long v92, .long (x89 * (1000 : Int64))]) (h' := h91) rfl ?_
        obtain ⟨v95, e96, hf⟩ := zo_b_s hf
        refine zr_ldiv rfl e96 ?_
        refine zq_wg 2 (pc' := 188) (lv' := [none, none, none, none, none, some (.int x88), some (.long x89), none, some (.long v92), none, none, none]) (st' := [.int v95.toInt32]) (h' := h91) rfl ?_
        exact zr_ri rfl rfl rfl hf
set_option maxRecDepth 4000 in
def zx_share (sc : zX) (a0 : Nat) (a1 : Int32) (a2 : Int32) (h : zH) : Option (Int32 × zH) := zo_v h a0 9 (zx_canPool sc a0 a1 h) (fun v2 h1 => if v2 = 0 then (some ((-1 : Int32), h1)) else (zo_b (zo_gR h1 9 a0 11) (fun v6 => zo_v h1 v6 0 (zx_Army_hasMan sc v6 a2 h1) (fun v9 h8 => if v9 = 0 then (some ((-1 : Int32), h8)) else (if ((a1 >>> (a2 &&& 31)) &&& (1 : Int32)) = 0 then (some ((-1 : Int32), h8)) else (zo_b (zo_gR h8 9 a0 5) (fun v14 => zo_b (zo_gR h8 9 a0 11) (fun v16 => zo_b (zo_gR h8 9 a0 1) (fun v18 => zo_v h8 v14 6 (zx_Trade_shareOf sc v14 v16 v18 a1 a2 h8) (fun v21 h20 => some (v21, h20)))))))))))
set_option maxRecDepth 4000 in
theorem zx_share_ok (sc : zX) (d : Nat) (hd : 5 ≤ d) {a0 : Nat} {a1 : Int32} {a2 : Int32} {h : zH} {ro_ : Int32} {ho_ : zH} (hf : zx_share sc a0 a1 a2 h = some (ro_, ho_)) : zq_wm sc d 121 [.ref a0, .int a1, .int a2] h (some (.int ro_), ho_) := by
  unfold zx_share at hf
  obtain ⟨d, rfl⟩ : ∃ d', d = d' + 1 := ⟨d - 1, by omega⟩
  have hd : 4 ≤ d := by omega
  show zq_wp sc (d + 1) 121 0 [some (.ref a0), some (.int a1), some (.int a2)] [] h _
  refine zq_wg 2 (pc' := 2) (lv' := [some (.ref a0), some (.int a1), some (.int a2)]) (st' := [.int a1, .ref a0]) (h' := h) rfl ?_
  obtain ⟨e4, v2, h1, e3, hf⟩ := zo_v_s hf
  refine zr_cv zq_m118 [.int a1] [] rfl rfl rfl rfl rfl (Nat.le_of_ble_eq_true rfl) (Nat.le_of_ble_eq_true rfl) e4 (zx_canPool_ok sc d (by omega) e3) ?_
  refine zq_wg 0 (pc' := 5) (lv' := [some (.ref a0), some (.int a1), some (.int a2)]) (st' := [.int v2]) (h' := h1) rfl ?_
  refine zr_if (v2 = 0) 27 8 (st' := []) rfl rfl (fun b5 => ?_) (fun b5 => ?_)
  · have hf := zo_t hf b5
    refine zq_wg 1 (pc' := 28) (lv' := [some (.ref a0), some (.int a1), some (.int a2)]) (st' := [.int (-1 : Int32)]) (h' := h1) rfl ?_
    exact zr_ri rfl rfl rfl hf
  · have hf := zo_f hf b5
    refine zq_wg 1 (pc' := 9) (lv' := [some (.ref a0), some (.int a1), some (.int a2)]) (st' := [.ref a0]) (h' := h1) rfl ?_
    obtain ⟨v6, e7, hf⟩ := zo_b_s hf
    refine zr_gR rfl rfl (by decide) rfl e7 ?_
    refine zq_wg 1 (pc' := 13) (lv' := [some (.ref a0), some (.int a1), some (.int a2)]) (st' := [.int a2, .ref v6]) (h' := h1) rfl ?_
    obtain ⟨e11, v9, h8, e10, hf⟩ := zo_v_s hf
    refine zr_cv zq_m69 [.int a2] [] rfl rfl rfl rfl rfl (Nat.le_of_ble_eq_true rfl) (Nat.le_of_ble_eq_true rfl) e11 (zx_Army_hasMan_ok sc d (by omega) e10) ?_
    refine zq_wg 0 (pc' := 16) (lv' := [some (.ref a0), some (.int a1), some (.int a2)]) (st' := [.int v9]) (h' := h8) rfl ?_
    refine zr_if (v9 = 0) 27 19 (st' := []) rfl rfl (fun b12 => ?_) (fun b12 => ?_)
    · have hf := zo_t hf b12
      refine zq_wg 1 (pc' := 28) (lv' := [some (.ref a0), some (.int a1), some (.int a2)]) (st' := [.int (-1 : Int32)]) (h' := h8) rfl ?_
      exact zr_ri rfl rfl rfl hf
    · have hf := zo_f hf b12
      refine zq_wg 5 (pc' := 24) (lv' := [some (.ref a0), some (.int a1), some (.int a2)]) (st' := [.int ((a1 >>> (a2 &&& 31)) &&& (1 : Int32))]) (h' := h8) rfl ?_
      refine zr_if (((a1 >>> (a2 &&& 31)) &&& (1 : Int32)) = 0) 27 29 (st' := []) rfl rfl (fun b13 => ?_) (fun b13 => ?_)
      · have hf := zo_t hf b13
        refine zq_wg 1 (pc' := 28) (lv' := [some (.ref a0), some (.int a1), some (.int a2)]) (st' := [.int (-1 : Int32)]) (h' := h8) rfl ?_
        exact zr_ri rfl rfl rfl hf
      · have hf := zo_f hf b13
        refine zq_wg 1 (pc' := 30) (lv' := [some (.ref a0), some (.int a1), some (.int a2)]) (st' := [.ref a0]) (h' := h8) rfl ?_
        obtain ⟨v14, e15, hf⟩ := zo_b_s hf
        refine zr_gR rfl rfl (by decide) rfl e15 ?_
        refine zq_wg 1 (pc' := 34) (lv' := [some (.ref a0), some (.int a1), some (.int a2)]) (st' := [.ref a0, .ref v14]) (h' := h8) rfl ?_
        obtain ⟨v16, e17, hf⟩ := zo_b_s hf
        refine zr_gR rfl rfl (by decide) rfl e17 ?_
        refine zq_wg 1 (pc' := 38) (lv' := [some (.ref a0), some (.int a1), some (.int a2)]) (st' := [.ref a0, .ref v16, .ref v14]) (h' := h8) rfl ?_
        obtain ⟨v18, e19, hf⟩ := zo_b_s hf
        refine zr_gR rfl rfl (by decide) rfl e19 ?_
        refine zq_wg 2 (pc' := 43) (lv' := [some (.ref a0), some (.int a1), some (.int a2)]) (st' := [.int a2, .int a1, .ref v18, .ref v16, .ref v14]) (h' := h8) rfl ?_
        obtain ⟨e23, v21, h20, e22, hf⟩ := zo_v_s hf
        refine zr_cv zq_m122 [.ref v16, .ref v18, .int a1, .int a2] [] rfl rfl rfl rfl rfl (Nat.le_of_ble_eq_true rfl) (Nat.le_of_ble_eq_true rfl) e23 (zx_Trade_shareOf_ok sc d (by omega) e22) ?_
        refine zq_wg 0 (pc' := 46) (lv' := [some (.ref a0), some (.int a1), some (.int a2)]) (st' := [.int v21]) (h' := h20) rfl ?_
        exact zr_ri rfl rfl rfl hf
set_option maxRecDepth 4000 in
def zx_tell (sc : zX) (a0 : Nat) (a1 : Int32) (a2 : Int32) (h : zH) : Option (Int32 × zH) := zo_b (zo_gR h 9 a0 11) (fun v1 => zo_v h v1 0 (zx_Army_hasMan sc v1 a1 h) (fun v4 h3 => if v4 = 0 then (some ((0 : Int32), h3)) else (zo_b (zo_gR h3 9 a0 11) (fun v8 => zo_v h3 v8 0 (zx_Army_hasPost sc v8 a2 h3) (fun v11 h10 => if v11 = 0 then (some ((0 : Int32), h10)) else (zo_b (zo_gR h10 9 a0 3) (fun v15 => zo_b (zo_gI h10 2 v15 4) (fun v17 => if v17 < (8 : Int32) then (zo_b (zo_gR h10 9 a0 3) (fun v20 => zo_b (zo_gR h10 2 v20 1) (fun v22 => zo_b (zo_gR h10 9 a0 3) (fun v24 => zo_b (zo_gI h10 2 v24 4) (fun v26 => zo_c (zx_put sc v22 v26 a1 h10) (fun w29 h28 => zo_b (zo_gR h28 9 a0 3) (fun v31 => zo_b (zo_gR h28 2 v31 2) (fun v33 => zo_b (zo_gR h28 9 a0 3) (fun v35 => zo_b (zo_gI h28 2 v35 4) (fun v37 => zo_c (zx_put sc v33 v37 a2 h28) (fun w40 h39 => zo_b (zo_gR h39 9 a0 3) (fun v42 => zo_b (zo_gI h39 2 v42 4) (fun v44 => zo_b (zo_pI h39 2 v42 4 (v44 + (1 : Int32))) (fun h46 => some ((1 : Int32), h46))))))))))))))) else (some ((0 : Int32), h10))))))))))
set_option maxRecDepth 4000 in
theorem zx_tell_ok (sc : zX) (d : Nat) (hd : 1 ≤ d) {a0 : Nat} {a1 : Int32} {a2 : Int32} {h : zH} {ro_ : Int32} {ho_ : zH} (hf : zx_tell sc a0 a1 a2 h = some (ro_, ho_)) : zq_wm sc d 124 [.ref a0, .int a1, .int a2] h (some (.int ro_), ho_) := by
  unfold zx_tell at hf
  obtain ⟨d, rfl⟩ : ∃ d', d = d' + 1 := ⟨d - 1, by omega⟩
  have hd : 0 ≤ d := by omega
  show zq_wp sc (d + 1) 124 0 [some (.ref a0), some (.int a1), some (.int a2)] [] h _
  refine zq_wg 1 (pc' := 1) (lv' := [some (.ref a0), some (.int a1), some (.int a2)]) (st' := [.ref a0]) (h' := h) rfl ?_
  obtain ⟨v1, e2, hf⟩ := zo_b_s hf
  refine zr_gR rfl rfl (by decide) rfl e2 ?_
  refine zq_wg 1 (pc' := 5) (lv' := [some (.ref a0), some (.int a1), some (.int a2)]) (st' := [.int a1, .ref v1]) (h' := h) rfl ?_
  obtain ⟨e6, v4, h3, e5, hf⟩ := zo_v_s hf
  refine zr_cv zq_m69 [.int a1] [] rfl rfl rfl rfl rfl (Nat.le_of_ble_eq_true rfl) (Nat.le_of_ble_eq_true rfl) e6 (zx_Army_hasMan_ok sc d (by omega) e5) ?_
  refine zq_wg 0 (pc' := 8) (lv' := [some (.ref a0), some (.int a1), some (.int a2)]) (st' := [.int v4]) (h' := h3) rfl ?_
  refine zr_if (v4 = 0) 34 11 (st' := []) rfl rfl (fun b7 => ?_) (fun b7 => ?_)
  · have hf := zo_t hf b7
    refine zq_wg 1 (pc' := 35) (lv' := [some (.ref a0), some (.int a1), some (.int a2)]) (st' := [.int (0 : Int32)]) (h' := h3) rfl ?_
    exact zr_ri rfl rfl rfl hf
  · have hf := zo_f hf b7
    refine zq_wg 1 (pc' := 12) (lv' := [some (.ref a0), some (.int a1), some (.int a2)]) (st' := [.ref a0]) (h' := h3) rfl ?_
    obtain ⟨v8, e9, hf⟩ := zo_b_s hf
    refine zr_gR rfl rfl (by decide) rfl e9 ?_
    refine zq_wg 1 (pc' := 16) (lv' := [some (.ref a0), some (.int a1), some (.int a2)]) (st' := [.int a2, .ref v8]) (h' := h3) rfl ?_
    obtain ⟨e13, v11, h10, e12, hf⟩ := zo_v_s hf
    refine zr_cv zq_m66 [.int a2] [] rfl rfl rfl rfl rfl (Nat.le_of_ble_eq_true rfl) (Nat.le_of_ble_eq_true rfl) e13 (zx_Army_hasPost_ok sc d (by omega) e12) ?_
    refine zq_wg 0 (pc' := 19) (lv' := [some (.ref a0), some (.int a1), some (.int a2)]) (st' := [.int v11]) (h' := h10) rfl ?_
    refine zr_if (v11 = 0) 34 22 (st' := []) rfl rfl (fun b14 => ?_) (fun b14 => ?_)
    · have hf := zo_t hf b14
      refine zq_wg 1 (pc' := 35) (lv' := [some (.ref a0), some (.int a1), some (.int a2)]) (st' := [.int (0 : Int32)]) (h' := h10) rfl ?_
      exact zr_ri rfl rfl rfl hf
    · have hf := zo_f hf b14
      refine zq_wg 1 (pc' := 23) (lv' := [some (.ref a0), some (.int a1), some (.int a2)]) (st' := [.ref a0]) (h' := h10) rfl ?_
      obtain ⟨v15, e16, hf⟩ := zo_b_s hf
      refine zr_gR rfl rfl (by decide) rfl e16 ?_
      obtain ⟨v17, e18, hf⟩ := zo_b_s hf
      refine zr_gI rfl rfl (by decide) rfl e18 ?_
      refine zq_wg 1 (pc' := 31) (lv' := [some (.ref a0), some (.int a1), some (.int a2)]) (st' := [.int (8 : Int32), .int v17]) (h' := h10) rfl ?_
      refine zr_if (v17 < (8 : Int32)) 36 34 (st' := []) rfl rfl (fun b19 => ?_) (fun b19 => ?_)
      · have hf := zo_t hf b19
        refine zq_wg 1 (pc' := 37) (lv' := [some (.ref a0), some (.int a1), some (.int a2)]) (st' := [.ref a0]) (h' := h10) rfl ?_
        obtain ⟨v20, e21, hf⟩ := zo_b_s hf
        refine zr_gR rfl rfl (by decide) rfl e21 ?_
        obtain ⟨v22, e23, hf⟩ := zo_b_s hf
        refine zr_gR rfl rfl (by decide) rfl e23 ?_
        refine zq_wg 1 (pc' := 44) (lv' := [some (.ref a0), some (.int a1), some (.int a2)]) (st' := [.ref a0, .ref v22]) (h' := h10) rfl ?_
        obtain ⟨v24, e25, hf⟩ := zo_b_s hf
        refine zr_gR rfl rfl (by decide) rfl e25 ?_
        obtain ⟨v26, e27, hf⟩ := zo_b_s hf
        refine zr_gI rfl rfl (by decide) rfl e27 ?_
        refine zq_wg 1 (pc' := 51) (lv' := [some (.ref a0), some (.int a1), some (.int a2)]) (st' := [.int a1, .int v26, .ref v22]) (h' := h10) rfl ?_
        obtain ⟨w29, h28, e30, hf⟩ := zo_c_s hf
        refine zr_cs zq_m11 [.ref v22, .int v26, .int a1] [] rfl rfl (by decide) rfl rfl rfl (Nat.le_of_ble_eq_true rfl) (Nat.le_of_ble_eq_true rfl) (zx_put_ok sc d (by omega) e30) ?_
        refine zq_wg 0 (pc' := 54) (lv' := [some (.ref a0), some (.int a1), some (.int a2)]) (st' := []) (h' := h28) rfl ?_
        refine zq_wg 1 (pc' := 55) (lv' := [some (.ref a0), some (.int a1), some (.int a2)]) (st' := [.ref a0]) (h' := h28) rfl ?_
        obtain ⟨v31, e32, hf⟩ := zo_b_s hf
        refine zr_gR rfl rfl (by decide) rfl e32 ?_
        obtain ⟨v33, e34, hf⟩ := zo_b_s hf
        refine zr_gR rfl rfl (by decide) rfl e34 ?_
        refine zq_wg 1 (pc' := 62) (lv' := [some (.ref a0), some (.int a1), some (.int a2)]) (st' := [.ref a0, .ref v33]) (h' := h28) rfl ?_
        obtain ⟨v35, e36, hf⟩ := zo_b_s hf
        refine zr_gR rfl rfl (by decide) rfl e36 ?_
        obtain ⟨v37, e38, hf⟩ := zo_b_s hf
        refine zr_gI rfl rfl (by decide) rfl e38 ?_
        refine zq_wg 1 (pc' := 69) (lv' := [some (.ref a0), some (.int a1), some (.int a2)]) (st' := [.int a2, .int v37, .ref v33]) (h' := h28) rfl ?_
        obtain ⟨w40, h39, e41, hf⟩ := zo_c_s hf
        refine zr_cs zq_m11 [.ref v33, .int v37, .int a2] [] rfl rfl (by decide) rfl rfl rfl (Nat.le_of_ble_eq_true rfl) (Nat.le_of_ble_eq_true rfl) (zx_put_ok sc d (by omega) e41) ?_
        refine zq_wg 0 (pc' := 72) (lv' := [some (.ref a0), some (.int a1), some (.int a2)]) (st' := []) (h' := h39) rfl ?_
        refine zq_wg 1 (pc' := 73) (lv' := [some (.ref a0), some (.int a1), some (.int a2)]) (st' := [.ref a0]) (h' := h39) rfl ?_
        obtain ⟨v42, e43, hf⟩ := zo_b_s hf
        refine zr_gR rfl rfl (by decide) rfl e43 ?_
        refine zq_wg 1 (pc' := 77) (lv' := [some (.ref a0), some (.int a1), some (.int a2)]) (st' := [.ref v42, .ref v42]) (h' := h39) rfl ?_
        obtain ⟨v44, e45, hf⟩ := zo_b_s hf
        refine zr_gI rfl rfl (by decide) rfl e45 ?_
        refine zq_wg 2 (pc' := 82) (lv' := [some (.ref a0), some (.int a1), some (.int a2)]) (st' := [.int (v44 + (1 : Int32)), .ref v42]) (h' := h39) rfl ?_
        obtain ⟨h46, e47, hf⟩ := zo_b_s hf
        refine zr_pI rfl rfl (by decide) rfl rfl e47 ?_
        refine zq_wg 1 (pc' := 86) (lv' := [some (.ref a0), some (.int a1), some (.int a2)]) (st' := [.int (1 : Int32)]) (h' := h46) rfl ?_
        exact zr_ri rfl rfl rfl hf
      · have hf := zo_f hf b19
        refine zq_wg 1 (pc' := 35) (lv' := [some (.ref a0), some (.int a1), some (.int a2)]) (st' := [.int (0 : Int32)]) (h' := h10) rfl ?_
        exact zr_ri rfl rfl rfl hf
