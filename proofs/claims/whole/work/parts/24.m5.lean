/-! methods as functions, and their walks; printed by wip/whole/decomp.py -/
set_option maxRecDepth 4000 in
def zx_Notes_ticketsOf_l4 (sc : zX) : Nat → Nat → Int32 → Int32 → Int32 → zH → Option (Int32 × zH)
  | 0, _, _, _, _, _ => none
  | n + 1, y1, y2, y3, y4, h5 => zo_b (zo_gI h5 2 y1 4) (fun v6 => if v6 ≤ y4 then (some (y3, h5)) else (zo_b (zo_gR h5 2 y1 1) (fun v9 => zo_c (zx_at sc v9 y4 h5) (fun v12 h11 => zo_l (fun (x14 : Nat) (x15 : Int32) (x16 : Int32) (x17 : Int32) (h18 : zH) => zx_Notes_ticketsOf_l4 sc n x14 x15 x16 (x17 + (1 : Int32)) h18 ) (fun j27_18 => if v12 = y2 then (j27_18 y1 y2 (y3 + (1 : Int32)) y4 h11) else (j27_18 y1 y2 y3 y4 h11))))))
set_option maxRecDepth 4000 in
def zx_Notes_ticketsOf (sc : zX) (a0 : Nat) (a1 : Int32) (h : zH) : Option (Int32 × zH) := zx_Notes_ticketsOf_l4 sc zo_F a0 a1 (0 : Int32) (0 : Int32) h 
set_option maxRecDepth 4000 in
theorem zx_Notes_ticketsOf_l4_ok (sc : zX) (d : Nat) (hd : 0 ≤ d) : ∀ (n : Nat) (y1 : Nat) (y2 : Int32) (y3 : Int32) (y4 : Int32) (h5 : zH) (ro_ : Int32) (ho_ : zH),  zx_Notes_ticketsOf_l4 sc n y1 y2 y3 y4 h5  = some (ro_, ho_) → zq_wp sc (d + 1) 127 4 [some (.ref y1), some (.int y2), some (.int y3), some (.int y4)] [] h5 (some (.int ro_), ho_) := by
  intro n
  induction n with
  | zero => intro y1 y2 y3 y4 h5 ro_ ho_ hf; cases hf
  | succ n ih =>
    intro y1 y2 y3 y4 h5 ro_ ho_ hf
    refine zq_wg 2 (pc' := 6) (lv' := [some (.ref y1), some (.int y2), some (.int y3), some (.int y4)]) (st' := [.ref y1, .int y4]) (h' := h5) rfl ?_
    obtain ⟨v6, e7, hf⟩ := zo_b_s hf
    refine zr_gI rfl rfl (by decide) rfl e7 ?_
    refine zr_if (v6 ≤ y4) 33 12 (st' := []) rfl rfl (fun b8 => ?_) (fun b8 => ?_)
    · have hf := zo_t hf b8
      refine zq_wg 1 (pc' := 34) (lv' := [some (.ref y1), some (.int y2), some (.int y3), some (.int y4)]) (st' := [.int y3]) (h' := h5) rfl ?_
      exact zr_ri rfl rfl rfl hf
    · have hf := zo_f hf b8
      refine zq_wg 1 (pc' := 13) (lv' := [some (.ref y1), some (.int y2), some (.int y3), some (.int y4)]) (st' := [.ref y1]) (h' := h5) rfl ?_
      obtain ⟨v9, e10, hf⟩ := zo_b_s hf
      refine zr_gR rfl rfl (by decide) rfl e10 ?_
      refine zq_wg 1 (pc' := 17) (lv' := [some (.ref y1), some (.int y2), some (.int y3), some (.int y4)]) (st' := [.int y4, .ref v9]) (h' := h5) rfl ?_
      obtain ⟨v12, h11, e13, hf⟩ := zo_c_s hf
      refine zr_cs zq_m12 [.ref v9, .int y4] [] rfl rfl (by decide) rfl rfl rfl (Nat.le_of_ble_eq_true rfl) (Nat.le_of_ble_eq_true rfl) (zx_at_ok sc d (by omega) e13) ?_
      refine zq_wg 0 (pc' := 20) (lv' := [some (.ref y1), some (.int y2), some (.int y3), some (.int y4)]) (st' := [.int v12]) (h' := h11) rfl ?_
      refine zq_wg 1 (pc' := 21) (lv' := [some (.ref y1), some (.int y2), some (.int y3), some (.int y4)]) (st' := [.int y2, .int v12]) (h' := h11) rfl ?_
      obtain ⟨j27_18, hjj27_18, hf⟩ := zo_lj hf
      have kj27_18 : ∀ (x14 : Nat) (x15 : Int32) (x16 : Int32) (x17 : Int32) (h18 : zH), j27_18 x14 x15 x16 x17 h18 = some (ro_, ho_) → zq_wp sc (d + 1) 127 27 [some (.ref x14), some (.int x15), some (.int x16), some (.int x17)] [] h18 (some (.int ro_), ho_) := by
        intro x14 x15 x16 x17 h18 hf
        rw [hjj27_18] at hf
        refine zq_wg 2 (pc' := 4) (lv' := [some (.ref x14), some (.int x15), some (.int x16), some (.int (x17 + (1 : Int32)))]) (st' := []) (h' := h18) rfl ?_
        exact ih x14 x15 x16 (x17 + (1 : Int32)) h18 _ _ hf
      refine zr_if (v12 = y2) 24 27 (st' := []) rfl rfl (fun b19 => ?_) (fun b19 => ?_)
      · have hf := zo_t hf b19
        refine zq_wg 1 (pc' := 27) (lv' := [some (.ref y1), some (.int y2), some (.int (y3 + (1 : Int32))), some (.int y4)]) (st' := []) (h' := h11) rfl ?_
        exact kj27_18 y1 y2 (y3 + (1 : Int32)) y4 h11 hf
      · have hf := zo_f hf b19
        exact kj27_18 y1 y2 y3 y4 h11 hf
set_option maxRecDepth 4000 in
theorem zx_Notes_ticketsOf_ok (sc : zX) (d : Nat) (hd : 1 ≤ d) {a0 : Nat} {a1 : Int32} {h : zH} {ro_ : Int32} {ho_ : zH} (hf : zx_Notes_ticketsOf sc a0 a1 h = some (ro_, ho_)) : zq_wm sc d 127 [.ref a0, .int a1] h (some (.int ro_), ho_) := by
  unfold zx_Notes_ticketsOf at hf
  obtain ⟨d, rfl⟩ : ∃ d', d = d' + 1 := ⟨d - 1, by omega⟩
  have hd : 0 ≤ d := by omega
  show zq_wp sc (d + 1) 127 0 [some (.ref a0), some (.int a1), none, none] [] h _
  refine zq_wg 4 (pc' := 4) (lv' := [some (.ref a0), some (.int a1), some (.int (0 : Int32)), some (.int (0 : Int32))]) (st' := []) (h' := h) rfl ?_
  refine zx_Notes_ticketsOf_l4_ok sc d hd zo_F a0 a1 (0 : Int32) (0 : Int32) h _ _ hf
set_option maxRecDepth 4000 in
def zx_canWeigh (sc : zX) (a0 : Nat) (a1 : Int32) (a2 : Int32) (h : zH) : Option (Int32 × zH) := zo_b (zo_gR h 9 a0 11) (fun v1 => zo_v h v1 0 (zx_Army_hasMan sc v1 a1 h) (fun v4 h3 => if v4 = 0 then (some ((0 : Int32), h3)) else (zo_c (zx_within sc a2 (1 : Int32) (9 : Int32) h3) (fun v9 h8 => if v9 = 0 then (some ((0 : Int32), h8)) else (zo_b (zo_gR h8 9 a0 3) (fun v12 => zo_v h8 v12 2 (zx_Notes_ticketsOf sc v12 a1 h8) (fun v15 h14 => if v15 ≤ 0 then (some ((0 : Int32), h14)) else (some ((1 : Int32), h14)))))))))
set_option maxRecDepth 4000 in
theorem zx_canWeigh_ok (sc : zX) (d : Nat) (hd : 2 ≤ d) {a0 : Nat} {a1 : Int32} {a2 : Int32} {h : zH} {ro_ : Int32} {ho_ : zH} (hf : zx_canWeigh sc a0 a1 a2 h = some (ro_, ho_)) : zq_wm sc d 126 [.ref a0, .int a1, .int a2] h (some (.int ro_), ho_) := by
  unfold zx_canWeigh at hf
  obtain ⟨d, rfl⟩ : ∃ d', d = d' + 1 := ⟨d - 1, by omega⟩
  have hd : 1 ≤ d := by omega
  show zq_wp sc (d + 1) 126 0 [some (.ref a0), some (.int a1), some (.int a2)] [] h _
  refine zq_wg 1 (pc' := 1) (lv' := [some (.ref a0), some (.int a1), some (.int a2)]) (st' := [.ref a0]) (h' := h) rfl ?_
  obtain ⟨v1, e2, hf⟩ := zo_b_s hf
  refine zr_gR rfl rfl (by decide) rfl e2 ?_
  refine zq_wg 1 (pc' := 5) (lv' := [some (.ref a0), some (.int a1), some (.int a2)]) (st' := [.int a1, .ref v1]) (h' := h) rfl ?_
  obtain ⟨e6, v4, h3, e5, hf⟩ := zo_v_s hf
  refine zr_cv zq_m69 [.int a1] [] rfl rfl rfl rfl rfl (Nat.le_of_ble_eq_true rfl) (Nat.le_of_ble_eq_true rfl) e6 (zx_Army_hasMan_ok sc d (by omega) e5) ?_
  refine zq_wg 0 (pc' := 8) (lv' := [some (.ref a0), some (.int a1), some (.int a2)]) (st' := [.int v4]) (h' := h3) rfl ?_
  refine zr_if (v4 = 0) 36 11 (st' := []) rfl rfl (fun b7 => ?_) (fun b7 => ?_)
  · have hf := zo_t hf b7
    refine zq_wg 1 (pc' := 37) (lv' := [some (.ref a0), some (.int a1), some (.int a2)]) (st' := [.int (0 : Int32)]) (h' := h3) rfl ?_
    exact zr_ri rfl rfl rfl hf
  · have hf := zo_f hf b7
    refine zq_wg 3 (pc' := 15) (lv' := [some (.ref a0), some (.int a1), some (.int a2)]) (st' := [.int (9 : Int32), .int (1 : Int32), .int a2]) (h' := h3) rfl ?_
    obtain ⟨v9, h8, e10, hf⟩ := zo_c_s hf
    refine zr_cs zq_m35 [.int a2, .int (1 : Int32), .int (9 : Int32)] [] rfl rfl (by decide) rfl rfl rfl (Nat.le_of_ble_eq_true rfl) (Nat.le_of_ble_eq_true rfl) (zx_within_ok sc d (by omega) e10) ?_
    refine zq_wg 0 (pc' := 18) (lv' := [some (.ref a0), some (.int a1), some (.int a2)]) (st' := [.int v9]) (h' := h8) rfl ?_
    refine zr_if (v9 = 0) 36 21 (st' := []) rfl rfl (fun b11 => ?_) (fun b11 => ?_)
    · have hf := zo_t hf b11
      refine zq_wg 1 (pc' := 37) (lv' := [some (.ref a0), some (.int a1), some (.int a2)]) (st' := [.int (0 : Int32)]) (h' := h8) rfl ?_
      exact zr_ri rfl rfl rfl hf
    · have hf := zo_f hf b11
      refine zq_wg 1 (pc' := 22) (lv' := [some (.ref a0), some (.int a1), some (.int a2)]) (st' := [.ref a0]) (h' := h8) rfl ?_
      obtain ⟨v12, e13, hf⟩ := zo_b_s hf
      refine zr_gR rfl rfl (by decide) rfl e13 ?_
      refine zq_wg 1 (pc' := 26) (lv' := [some (.ref a0), some (.int a1), some (.int a2)]) (st' := [.int a1, .ref v12]) (h' := h8) rfl ?_
      obtain ⟨e17, v15, h14, e16, hf⟩ := zo_v_s hf
      refine zr_cv zq_m127 [.int a1] [] rfl rfl rfl rfl rfl (Nat.le_of_ble_eq_true rfl) (Nat.le_of_ble_eq_true rfl) e17 (zx_Notes_ticketsOf_ok sc d (by omega) e16) ?_
      refine zq_wg 0 (pc' := 29) (lv' := [some (.ref a0), some (.int a1), some (.int a2)]) (st' := [.int v15]) (h' := h14) rfl ?_
      refine zr_if (v15 ≤ 0) 36 32 (st' := []) rfl rfl (fun b18 => ?_) (fun b18 => ?_)
      · have hf := zo_t hf b18
        refine zq_wg 1 (pc' := 37) (lv' := [some (.ref a0), some (.int a1), some (.int a2)]) (st' := [.int (0 : Int32)]) (h' := h14) rfl ?_
        exact zr_ri rfl rfl rfl hf
      · have hf := zo_f hf b18
        refine zq_wg 2 (pc' := 37) (lv' := [some (.ref a0), some (.int a1), some (.int a2)]) (st' := [.int (1 : Int32)]) (h' := h14) rfl ?_
        exact zr_ri rfl rfl rfl hf
set_option maxRecDepth 4000 in
def zx_luckyWays_l9 (sc : zX) : Nat → Int32 → Int32 → Int32 → Int32 → Int64 → Int64 → Int32 → zH → Option (Int64 × zH)
  | 0, _, _, _, _, _, _, _, _ => none
  | n + 1, y1, y2, y3, y4, y5, y6, y7, h8 => if y3 < y7 then (some (y5, h8)) else (zo_l (fun (x10 : Int32) (x11 : Int32) (x12 : Int32) (x13 : Int32) (x14 : Int64) (x15 : Int64) (x16 : Int32) (h17 : zH) => zo_b (zo_dvL (x15 * (x12 - x16).toInt64) ((x16 + (1 : Int32)).toInt64)) (fun v18 => zx_luckyWays_l9 sc n x10 x11 x12 x13 x14 v18 (x16 + (1 : Int32)) h17 )) (fun j44_17 => if y7 < y4 then (j44_17 y1 y2 y3 y4 y5 y6 y7 h8) else (zo_c (zx_power sc y1 y7 h8) (fun v22 h21 => zo_c (zx_power sc y2 (y3 - y7) h21) (fun v25 h24 => j44_17 y1 y2 y3 y4 (y5 + ((y6 * v22) * v25)) y6 y7 h24)))))
set_option maxRecDepth 4000 in
def zx_luckyWays (sc : zX) (a0 : Int32) (a1 : Int32) (a2 : Int32) (a3 : Int32) (h : zH) : Option (Int64 × zH) := zx_luckyWays_l9 sc zo_F a0 a1 a2 a3 (0 : Int64) (1 : Int64) (0 : Int32) h 
set_option maxRecDepth 4000 in
theorem zx_luckyWays_l9_ok (sc : zX) (d : Nat) (hd : 0 ≤ d) : ∀ (n : Nat) (y1 : Int32) (y2 : Int32) (y3 : Int32) (y4 : Int32) (y5 : Int64) (y6 : Int64) (y7 : Int32) (h8 : zH) (ro_ : Int64) (ho_ : zH),  zx_luckyWays_l9 sc n y1 y2 y3 y4 y5 y6 y7 h8  = some (ro_, ho_) → zq_wp sc (d + 1) 129 9 [some (.int y1), some (.int y2), some (.int y3), some (.int y4), some (.long y5), none, some (.long y6), none, some (.int y7)] [] h8 (some (.long ro_), ho_) := by
  intro n
  induction n with
  | zero => intro y1 y2 y3 y4 y5 y6 y7 h8 ro_ ho_ hf; cases hf
  | succ n ih =>
    intro y1 y2 y3 y4 y5 y6 y7 h8 ro_ ho_ hf
    refine zq_wg 2 (pc' := 12) (lv' := [some (.int y1), some (.int y2), some (.int y3), some (.int y4), some (.long y5), none, some (.long y6), none, some (.int y7)]) (st' := [.int y3, .int y7]) (h' := h8) rfl ?_
    refine zr_if (y3 < y7) 66 15 (st' := []) rfl rfl (fun b9 => ?_) (fun b9 => ?_)
    · have hf := zo_t hf b9
      refine zq_wg 1 (pc' := 68) (lv' := [some (.int y1), some (.int y2), some (.int y3), some (.int y4), some (.long y5), none, some (.long y6), none, some (.int y7)]) (st' := [.long y5]) (h' := h8) rfl ?_
      exact zr_rl rfl rfl hf
    · have hf := zo_f hf b9
      refine zq_wg 2 (pc' := 18) (lv' := [some (.int y1), some (.int y2), some (.int y3), some (.int y4), some (.long y5), none, some (.long y6), none, some (.int y7)]) (st' := [.int y4, .int y7]) (h' := h8) rfl ?_
      obtain ⟨j44_17, hjj44_17, hf⟩ := zo_lj hf
      have kj44_17 : ∀ (x10 : Int32) (x11 : Int32) (x12 : Int32) (x13 : Int32) (x14 : Int64) (x15 : Int64) (x16 : Int32) (h17 : zH), j44_17 x10 x11 x12 x13 x14 x15 x16 h17 = some (ro_, ho_) → zq_wp sc (d + 1) 129 44 [some (.int x10), some (.int x11), some (.int x12), some (.int x13), some (.long x14), none, some (.long x15), none, some (.int x16)] [] h17 (some (.long ro_), ho_) := by
        intro x10 x11 x12 x13 x14 x15 x16 h17 hf
        rw [hjj44_17] at hf
        refine zq_wg 10 (pc' := 57) (lv' := [some (.int x10), some (.int x11), some (.int x12), some (.int x13), some (.long x14), none, some (.long x15), none, some (.int x16)]) (st' := [.long ((x16 + (1 : Int32)).toInt64), .long (x15 * (x12 - x16).toInt64)]) (h' := h17) rfl ?_
        obtain ⟨v18, e19, hf⟩ := zo_b_s hf
        refine zr_ldiv rfl e19 ?_
        refine zq_wg 3 (pc' := 9) (lv' := [some (.int x10), some (.int x11), some (.int x12), some (.int x13), some (.long x14), none, some (.long v18), none, some (.int (x16 + (1 : Int32)))]) (st' := []) (h' := h17) rfl ?_
        exact ih x10 x11 x12 x13 x14 v18 (x16 + (1 : Int32)) h17 _ _ hf
      refine zr_if (y7 < y4) 44 21 (st' := []) rfl rfl (fun b20 => ?_) (fun b20 => ?_)
      · have hf := zo_t hf b20
        exact kj44_17 y1 y2 y3 y4 y5 y6 y7 h8 hf
      · have hf := zo_f hf b20
        refine zq_wg 4 (pc' := 28) (lv' := [some (.int y1), some (.int y2), some (.int y3), some (.int y4), some (.long y5), none, some (.long y6), none, some (.int y7)]) (st' := [.int y7, .int y1, .long y6, .long y5]) (h' := h8) rfl ?_
        obtain ⟨v22, h21, e23, hf⟩ := zo_c_s hf
        refine zr_cs zq_m107 [.int y1, .int y7] [.long y6, .long y5] rfl rfl (by decide) rfl rfl rfl (Nat.le_of_ble_eq_true rfl) (Nat.le_of_ble_eq_true rfl) (zx_power_ok sc d (by omega) e23) ?_
        refine zq_wg 0 (pc' := 31) (lv' := [some (.int y1), some (.int y2), some (.int y3), some (.int y4), some (.long y5), none, some (.long y6), none, some (.int y7)]) (st' := [.long v22, .long y6, .long y5]) (h' := h21) rfl ?_
        refine zq_wg 5 (pc' := 37) (lv' := [some (.int y1), some (.int y2), some (.int y3), some (.int y4), some (.long y5), none, some (.long y6), none, some (.int y7)]) (st' := [.int (y3 - y7), .int y2, .long (y6 * v22), .long y5]) (h' := h21) rfl ?_
        obtain ⟨v25, h24, e26, hf⟩ := zo_c_s hf
        refine zr_cs zq_m107 [.int y2, .int (y3 - y7)] [.long (y6 * v22), .long y5] rfl rfl (by decide) rfl rfl rfl (Nat.le_of_ble_eq_true rfl) (Nat.le_of_ble_eq_true rfl) (zx_power_ok sc d (by omega) e26) ?_
        refine zq_wg 0 (pc' := 40) (lv' := [some (.int y1), some (.int y2), some (.int y3), some (.int y4), some (.long y5), none, some (.long y6), none, some (.int y7)]) (st' := [.long v25, .long (y6 * v22), .long y5]) (h' := h24) rfl ?_
        refine zq_wg 3 (pc' := 44) (lv' := [some (.int y1), some (.int y2), some (.int y3), some (.int y4), some (.long (y5 + ((y6 * v22) * v25))), none, some (.long y6), none, some (.int y7)]) (st' := []) (h' := h24) rfl ?_
        exact kj44_17 y1 y2 y3 y4 (y5 + ((y6 * v22) * v25)) y6 y7 h24 hf
set_option maxRecDepth 4000 in
theorem zx_luckyWays_ok (sc : zX) (d : Nat) (hd : 1 ≤ d) {a0 : Int32} {a1 : Int32} {a2 : Int32} {a3 : Int32} {h : zH} {ro_ : Int64} {ho_ : zH} (hf : zx_luckyWays sc a0 a1 a2 a3 h = some (ro_, ho_)) : zq_wm sc d 129 [.int a0, .int a1, .int a2, .int a3] h (some (.long ro_), ho_) := by
  unfold zx_luckyWays at hf
  obtain ⟨d, rfl⟩ : ∃ d', d = d' + 1 := ⟨d - 1, by omega⟩
  have hd : 0 ≤ d := by omega
  show zq_wp sc (d + 1) 129 0 [some (.int a0), some (.int a1), some (.int a2), some (.int a3), none, none, none, none, none] [] h _
  refine zq_wg 6 (pc' := 9) (lv' := [some (.int a0), some (.int a1), some (.int a2), some (.int a3), some (.long (0 : Int64)), none, some (.long (1 : Int64)), none, some (.int (0 : Int32))]) (st' := []) (h' := h) rfl ?_
  refine zx_luckyWays_l9_ok sc d hd zo_F a0 a1 a2 a3 (0 : Int64) (1 : Int64) (0 : Int32) h _ _ hf
set_option maxRecDepth 4000 in
def zx_chance_l18 (sc : zX) : Nat → Nat → Int32 → Int32 → Int32 → Int32 → Int32 → zH → (Nat → Int32 → Int32 → Int32 → zH → Option (Int32 × zH)) → Option (Int32 × zH)
  | 0, _, _, _, _, _, _, _, _ => none
  | n + 1, y7, y8, y9, y10, y11, y12, h13, k81 => zo_b (zo_gR h13 9 y7 3) (fun v14 => zo_b (zo_gI h13 2 v14 4) (fun v16 => if v16 ≤ y12 then (k81 y7 y9 y10 y11 h13) else (zo_b (zo_gR h13 9 y7 3) (fun v19 => zo_b (zo_gR h13 2 v19 1) (fun v21 => zo_c (zx_at sc v21 y12 h13) (fun v24 h23 => zo_l (fun (x26 : Nat) (x27 : Int32) (x28 : Int32) (x29 : Int32) (x30 : Int32) (x31 : Int32) (h32 : zH) => zx_chance_l18 sc n x26 x27 x28 x29 x30 (x31 + (1 : Int32)) h32 k81) (fun j75_32 => if v24 = y8 then (zo_b (zo_gR h23 9 y7 11) (fun v34 => zo_b (zo_gR h23 0 v34 8) (fun v36 => zo_b (zo_gR h23 9 y7 3) (fun v38 => zo_b (zo_gR h23 2 v38 2) (fun v40 => zo_c (zx_at sc v40 y12 h23) (fun v43 h42 => zo_c (zx_at sc v36 v43 h42) (fun v46 h45 => if v46 < y9 then (j75_32 y7 y8 y9 y10 y11 y12 h45) else (j75_32 y7 y8 y9 y10 (y11 + (1 : Int32)) y12 h45)))))))) else (j75_32 y7 y8 y9 y10 y11 y12 h23))))))))
set_option maxRecDepth 4000 in
def zx_chance_l87 (sc : zX) : Nat → Nat → Int32 → Int32 → Int32 → Int32 → Int32 → zH → (Nat → Int32 → Int32 → Int32 → zH → Option (Int32 × zH)) → Option (Int32 × zH)
  | 0, _, _, _, _, _, _, _, _ => none
  | n + 1, y54, y55, y56, y57, y58, y59, h60, k136 => zo_b (zo_gR h60 9 y54 11) (fun v61 => zo_b (zo_gI h60 0 v61 0) (fun v63 => if v63 ≤ y59 then (k136 y54 y56 y57 y58 h60) else (zo_b (zo_gR h60 9 y54 11) (fun v66 => zo_b (zo_gI h60 0 v66 1) (fun v68 => if v68 ≤ y59 then (k136 y54 y56 y57 y58 h60) else (zo_b (zo_gR h60 9 y54 11) (fun v71 => zo_b (zo_gR h60 0 v71 8) (fun v73 => zo_c (zx_at sc v73 y59 h60) (fun v76 h75 => zo_l (fun (x78 : Nat) (x79 : Int32) (x80 : Int32) (x81 : Int32) (x82 : Int32) (x83 : Int32) (h84 : zH) => zx_chance_l87 sc n x78 x79 x80 x81 x82 (x83 + (1 : Int32)) h84 k136) (fun j130_84 => if v76 < y55 then (j130_84 y54 y55 y56 y57 y58 y59 h75) else (j130_84 y54 y55 y56 y57 (y58 + (1 : Int32)) y59 h75)))))))))))
set_option maxRecDepth 4000 in
def zx_chance (sc : zX) (a0 : Nat) (a1 : Int32) (a2 : Int32) (a3 : Int32) (h : zH) : Option (Int32 × zH) := zo_b (zo_gR h 9 a0 3) (fun v1 => zo_v h v1 2 (zx_Notes_ticketsOf sc v1 a1 h) (fun v4 h3 => zx_chance_l18 sc zo_F a0 a1 a2 (v4 + a3) a3 (0 : Int32) h3 (fun (x49 : Nat) (x50 : Int32) (x51 : Int32) (x52 : Int32) (h53 : zH) => zx_chance_l87 sc zo_F x49 x50 x51 x52 (0 : Int32) (0 : Int32) h53 (fun (x86 : Nat) (x87 : Int32) (x88 : Int32) (x89 : Int32) (h90 : zH) => zo_b (zo_gR h90 9 x86 11) (fun v91 => zo_b (zo_gI h90 0 v91 1) (fun v93 => zo_c (zx_power sc v93 x87 h90) (fun v96 h95 => if (lg_cmp v96 (0 : Int64)) ≤ 0 then (some ((-1 : Int32), h95)) else (zo_b (zo_gR h95 9 x86 11) (fun v99 => zo_b (zo_gI h95 0 v99 1) (fun v101 => zo_c (zx_luckyWays sc x89 (v101 - x89) x87 x88 h95) (fun v104 h103 => zo_b (zo_dvL (v104 * (1000000 : Int64)) v96) (fun v106 => some (v106.toInt32, h103)))))))))))))
set_option maxRecDepth 4000 in
theorem zx_chance_l18_ok (sc : zX) (d : Nat) (hd : 1 ≤ d) : ∀ (n : Nat) (y7 : Nat) (y8 : Int32) (y9 : Int32) (y10 : Int32) (y11 : Int32) (y12 : Int32) (h13 : zH) (k81 : Nat → Int32 → Int32 → Int32 → zH → Option (Int32 × zH)) (ro_ : Int32) (ho_ : zH), (∀ (z0 : Nat) (z1 : Int32) (z2 : Int32) (z3 : Int32) (hz : zH), k81 z0 z1 z2 z3 hz = some (ro_, ho_) → zq_wp sc (d + 1) 128 81 [some (.ref z0), none, some (.int z1), none, some (.int z2), some (.int z3), none, none, none] [] hz (some (.int ro_), ho_)) → zx_chance_l18 sc n y7 y8 y9 y10 y11 y12 h13 k81 = some (ro_, ho_) → zq_wp sc (d + 1) 128 18 [some (.ref y7), some (.int y8), some (.int y9), none, some (.int y10), some (.int y11), some (.int y12), none, none] [] h13 (some (.int ro_), ho_) := by
  intro n
  induction n with
  | zero => intro y7 y8 y9 y10 y11 y12 h13 k81 ro_ ho_ hk81 hf; cases hf
  | succ n ih =>
    intro y7 y8 y9 y10 y11 y12 h13 k81 ro_ ho_ hk81 hf
    refine zq_wg 2 (pc' := 21) (lv' := [some (.ref y7), some (.int y8), some (.int y9), none, some (.int y10), some (.int y11), some (.int y12), none, none]) (st' := [.ref y7, .int y12]) (h' := h13) rfl ?_
    obtain ⟨v14, e15, hf⟩ := zo_b_s hf
    refine zr_gR rfl rfl (by decide) rfl e15 ?_
    obtain ⟨v16, e17, hf⟩ := zo_b_s hf
    refine zr_gI rfl rfl (by decide) rfl e17 ?_
    refine zr_if (v16 ≤ y12) 81 30 (st' := []) rfl rfl (fun b18 => ?_) (fun b18 => ?_)
    · have hf := zo_t hf b18
      refine zq_fg [some (.ref y7), none, some (.int y9), none, some (.int y10), some (.int y11), none, none, none] (zq_lvle_s (zq_lvle_n (zq_lvle_s (zq_lvle_s (zq_lvle_s (zq_lvle_s (zq_lvle_n (zq_lvle_s (zq_lvle_s zq_lvle_nil))))))))) ?_
      exact hk81 y7 y9 y10 y11 h13 hf
    · have hf := zo_f hf b18
      refine zq_wg 1 (pc' := 31) (lv' := [some (.ref y7), some (.int y8), some (.int y9), none, some (.int y10), some (.int y11), some (.int y12), none, none]) (st' := [.ref y7]) (h' := h13) rfl ?_
      obtain ⟨v19, e20, hf⟩ := zo_b_s hf
      refine zr_gR rfl rfl (by decide) rfl e20 ?_
      obtain ⟨v21, e22, hf⟩ := zo_b_s hf
      refine zr_gR rfl rfl (by decide) rfl e22 ?_
      refine zq_wg 1 (pc' := 39) (lv' := [some (.ref y7), some (.int y8), some (.int y9), none, some (.int y10), some (.int y11), some (.int y12), none, none]) (st' := [.int y12, .ref v21]) (h' := h13) rfl ?_
      obtain ⟨v24, h23, e25, hf⟩ := zo_c_s hf
      refine zr_cs zq_m12 [.ref v21, .int y12] [] rfl rfl (by decide) rfl rfl rfl (Nat.le_of_ble_eq_true rfl) (Nat.le_of_ble_eq_true rfl) (zx_at_ok sc d (by omega) e25) ?_
      refine zq_wg 0 (pc' := 42) (lv' := [some (.ref y7), some (.int y8), some (.int y9), none, some (.int y10), some (.int y11), some (.int y12), none, none]) (st' := [.int v24]) (h' := h23) rfl ?_
      refine zq_wg 1 (pc' := 43) (lv' := [some (.ref y7), some (.int y8), some (.int y9), none, some (.int y10), some (.int y11), some (.int y12), none, none]) (st' := [.int y8, .int v24]) (h' := h23) rfl ?_
      obtain ⟨j75_32, hjj75_32, hf⟩ := zo_lj hf
      have kj75_32 : ∀ (x26 : Nat) (x27 : Int32) (x28 : Int32) (x29 : Int32) (x30 : Int32) (x31 : Int32) (h32 : zH), j75_32 x26 x27 x28 x29 x30 x31 h32 = some (ro_, ho_) → zq_wp sc (d + 1) 128 75 [some (.ref x26), some (.int x27), some (.int x28), none, some (.int x29), some (.int x30), some (.int x31), none, none] [] h32 (some (.int ro_), ho_) := by
        intro x26 x27 x28 x29 x30 x31 h32 hf
        rw [hjj75_32] at hf
        refine zq_wg 2 (pc' := 18) (lv' := [some (.ref x26), some (.int x27), some (.int x28), none, some (.int x29), some (.int x30), some (.int (x31 + (1 : Int32))), none, none]) (st' := []) (h' := h32) rfl ?_
        exact ih x26 x27 x28 x29 x30 (x31 + (1 : Int32)) h32 _ _ _ hk81 hf
      refine zr_if (v24 = y8) 46 75 (st' := []) rfl rfl (fun b33 => ?_) (fun b33 => ?_)
      · have hf := zo_t hf b33
        refine zq_wg 1 (pc' := 47) (lv' := [some (.ref y7), some (.int y8), some (.int y9), none, some (.int y10), some (.int y11), some (.int y12), none, none]) (st' := [.ref y7]) (h' := h23) rfl ?_
        obtain ⟨v34, e35, hf⟩ := zo_b_s hf
        refine zr_gR rfl rfl (by decide) rfl e35 ?_
        obtain ⟨v36, e37, hf⟩ := zo_b_s hf
        refine zr_gR rfl rfl (by decide) rfl e37 ?_
        refine zq_wg 1 (pc' := 54) (lv' := [some (.ref y7), some (.int y8), some (.int y9), none, some (.int y10), some (.int y11), some (.int y12), none, none]) (st' := [.ref y7, .ref v36]) (h' := h23) rfl ?_
        obtain ⟨v38, e39, hf⟩ := zo_b_s hf
        refine zr_gR rfl rfl (by decide) rfl e39 ?_
        obtain ⟨v40, e41, hf⟩ := zo_b_s hf
        refine zr_gR rfl rfl (by decide) rfl e41 ?_
        refine zq_wg 1 (pc' := 62) (lv' := [some (.ref y7), some (.int y8), some (.int y9), none, some (.int y10), some (.int y11), some (.int y12), none, none]) (st' := [.int y12, .ref v40, .ref v36]) (h' := h23) rfl ?_
        obtain ⟨v43, h42, e44, hf⟩ := zo_c_s hf
        refine zr_cs zq_m12 [.ref v40, .int y12] [.ref v36] rfl rfl (by decide) rfl rfl rfl (Nat.le_of_ble_eq_true rfl) (Nat.le_of_ble_eq_true rfl) (zx_at_ok sc d (by omega) e44) ?_
        refine zq_wg 0 (pc' := 65) (lv' := [some (.ref y7), some (.int y8), some (.int y9), none, some (.int y10), some (.int y11), some (.int y12), none, none]) (st' := [.int v43, .ref v36]) (h' := h42) rfl ?_
        obtain ⟨v46, h45, e47, hf⟩ := zo_c_s hf
        refine zr_cs zq_m12 [.ref v36, .int v43] [] rfl rfl (by decide) rfl rfl rfl (Nat.le_of_ble_eq_true rfl) (Nat.le_of_ble_eq_true rfl) (zx_at_ok sc d (by omega) e47) ?_
        refine zq_wg 0 (pc' := 68) (lv' := [some (.ref y7), some (.int y8), some (.int y9), none, some (.int y10), some (.int y11), some (.int y12), none, none]) (st' := [.int v46]) (h' := h45) rfl ?_
        refine zq_wg 1 (pc' := 69) (lv' := [some (.ref y7), some (.int y8), some (.int y9), none, some (.int y10), some (.int y11), some (.int y12), none, none]) (st' := [.int y9, .int v46]) (h' := h45) rfl ?_
        refine zr_if (v46 < y9) 75 72 (st' := []) rfl rfl (fun b48 => ?_) (fun b48 => ?_)
        · have hf := zo_t hf b48
          exact kj75_32 y7 y8 y9 y10 y11 y12 h45 hf
        · have hf := zo_f hf b48
          refine zq_wg 1 (pc' := 75) (lv' := [some (.ref y7), some (.int y8), some (.int y9), none, some (.int y10), some (.int (y11 + (1 : Int32))), some (.int y12), none, none]) (st' := []) (h' := h45) rfl ?_
          exact kj75_32 y7 y8 y9 y10 (y11 + (1 : Int32)) y12 h45 hf
      · have hf := zo_f hf b33
        exact kj75_32 y7 y8 y9 y10 y11 y12 h23 hf
set_option maxRecDepth 4000 in
theorem zx_chance_l87_ok (sc : zX) (d : Nat) (hd : 1 ≤ d) : ∀ (n : Nat) (y54 : Nat) (y55 : Int32) (y56 : Int32) (y57 : Int32) (y58 : Int32) (y59 : Int32) (h60 : zH) (k136 : Nat → Int32 → Int32 → Int32 → zH → Option (Int32 × zH)) (ro_ : Int32) (ho_ : zH), (∀ (z0 : Nat) (z1 : Int32) (z2 : Int32) (z3 : Int32) (hz : zH), k136 z0 z1 z2 z3 hz = some (ro_, ho_) → zq_wp sc (d + 1) 128 136 [some (.ref z0), none, none, none, some (.int z1), some (.int z2), some (.int z3), none, none] [] hz (some (.int ro_), ho_)) → zx_chance_l87 sc n y54 y55 y56 y57 y58 y59 h60 k136 = some (ro_, ho_) → zq_wp sc (d + 1) 128 87 [some (.ref y54), none, some (.int y55), none, some (.int y56), some (.int y57), some (.int y58), some (.int y59), none] [] h60 (some (.int ro_), ho_) := by
  intro n
  induction n with
  | zero => intro y54 y55 y56 y57 y58 y59 h60 k136 ro_ ho_ hk136 hf; cases hf
  | succ n ih =>
    intro y54 y55 y56 y57 y58 y59 h60 k136 ro_ ho_ hk136 hf
    refine zq_wg 2 (pc' := 90) (lv' := [some (.ref y54), none, some (.int y55), none, some (.int y56), some (.int y57), some (.int y58), some (.int y59), none]) (st' := [.ref y54, .int y59]) (h' := h60) rfl ?_
    obtain ⟨v61, e62, hf⟩ := zo_b_s hf
    refine zr_gR rfl rfl (by decide) rfl e62 ?_
    obtain ⟨v63, e64, hf⟩ := zo_b_s hf
    refine zr_gI rfl rfl (by decide) rfl e64 ?_
    refine zr_if (v63 ≤ y59) 136 99 (st' := []) rfl rfl (fun b65 => ?_) (fun b65 => ?_)
    · have hf := zo_t hf b65
      refine zq_fg [some (.ref y54), none, none, none, some (.int y56), some (.int y57), some (.int y58), none, none] (zq_lvle_s (zq_lvle_s (zq_lvle_n (zq_lvle_s (zq_lvle_s (zq_lvle_s (zq_lvle_s (zq_lvle_n (zq_lvle_s zq_lvle_nil))))))))) ?_
      exact hk136 y54 y56 y57 y58 h60 hf
    · have hf := zo_f hf b65
      refine zq_wg 2 (pc' := 102) (lv' := [some (.ref y54), none, some (.int y55), none, some (.int y56), some (.int y57), some (.int y58), some (.int y59), none]) (st' := [.ref y54, .int y59]) (h' := h60) rfl ?_
      obtain ⟨v66, e67, hf⟩ := zo_b_s hf
      refine zr_gR rfl rfl (by decide) rfl e67 ?_
      obtain ⟨v68, e69, hf⟩ := zo_b_s hf
      refine zr_gI rfl rfl (by decide) rfl e69 ?_
      refine zr_if (v68 ≤ y59) 136 111 (st' := []) rfl rfl (fun b70 => ?_) (fun b70 => ?_)
      · have hf := zo_t hf b70
        refine zq_fg [some (.ref y54), none, none, none, some (.int y56), some (.int y57), some (.int y58), none, none] (zq_lvle_s (zq_lvle_s (zq_lvle_n (zq_lvle_s (zq_lvle_s (zq_lvle_s (zq_lvle_s (zq_lvle_n (zq_lvle_s zq_lvle_nil))))))))) ?_
        exact hk136 y54 y56 y57 y58 h60 hf
      · have hf := zo_f hf b70
        refine zq_wg 1 (pc' := 112) (lv' := [some (.ref y54), none, some (.int y55), none, some (.int y56), some (.int y57), some (.int y58), some (.int y59), none]) (st' := [.ref y54]) (h' := h60) rfl ?_
        obtain ⟨v71, e72, hf⟩ := zo_b_s hf
        refine zr_gR rfl rfl (by decide) rfl e72 ?_
        obtain ⟨v73, e74, hf⟩ := zo_b_s hf
        refine zr_gR rfl rfl (by decide) rfl e74 ?_
        refine zq_wg 1 (pc' := 120) (lv' := [some (.ref y54), none, some (.int y55), none, some (.int y56), some (.int y57), some (.int y58), some (.int y59), none]) (st' := [.int y59, .ref v73]) (h' := h60) rfl ?_
        obtain ⟨v76, h75, e77, hf⟩ := zo_c_s hf
        refine zr_cs zq_m12 [.ref v73, .int y59] [] rfl rfl (by decide) rfl rfl rfl (Nat.le_of_ble_eq_true rfl) (Nat.le_of_ble_eq_true rfl) (zx_at_ok sc d (by omega) e77) ?_
        refine zq_wg 0 (pc' := 123) (lv' := [some (.ref y54), none, some (.int y55), none, some (.int y56), some (.int y57), some (.int y58), some (.int y59), none]) (st' := [.int v76]) (h' := h75) rfl ?_
        refine zq_wg 1 (pc' := 124) (lv' := [some (.ref y54), none, some (.int y55), none, some (.int y56), some (.int y57), some (.int y58), some (.int y59), none]) (st' := [.int y55, .int v76]) (h' := h75) rfl ?_
        obtain ⟨j130_84, hjj130_84, hf⟩ := zo_lj hf
        have kj130_84 : ∀ (x78 : Nat) (x79 : Int32) (x80 : Int32) (x81 : Int32) (x82 : Int32) (x83 : Int32) (h84 : zH), j130_84 x78 x79 x80 x81 x82 x83 h84 = some (ro_, ho_) → zq_wp sc (d + 1) 128 130 [some (.ref x78), none, some (.int x79), none, some (.int x80), some (.int x81), some (.int x82), some (.int x83), none] [] h84 (some (.int ro_), ho_) := by
          intro x78 x79 x80 x81 x82 x83 h84 hf
          rw [hjj130_84] at hf
          refine zq_wg 2 (pc' := 87) (lv' := [some (.ref x78), none, some (.int x79), none, some (.int x80), some (.int x81), some (.int x82), some (.int (x83 + (1 : Int32))), none]) (st' := []) (h' := h84) rfl ?_
          exact ih x78 x79 x80 x81 x82 (x83 + (1 : Int32)) h84 _ _ _ hk136 hf
        refine zr_if (v76 < y55) 130 127 (st' := []) rfl rfl (fun b85 => ?_) (fun b85 => ?_)
        · have hf := zo_t hf b85
          exact kj130_84 y54 y55 y56 y57 y58 y59 h75 hf
        · have hf := zo_f hf b85
          refine zq_wg 1 (pc' := 130) (lv' := [some (.ref y54), none, some (.int y55), none, some (.int y56), some (.int y57), some (.int (y58 + (1 : Int32))), some (.int y59), none]) (st' := []) (h' := h75) rfl ?_
          exact kj130_84 y54 y55 y56 y57 (y58 + (1 : Int32)) y59 h75 hf
set_option maxRecDepth 4000 in
theorem zx_chance_ok (sc : zX) (d : Nat) (hd : 2 ≤ d) {a0 : Nat} {a1 : Int32} {a2 : Int32} {a3 : Int32} {h : zH} {ro_ : Int32} {ho_ : zH} (hf : zx_chance sc a0 a1 a2 a3 h = some (ro_, ho_)) : zq_wm sc d 128 [.ref a0, .int a1, .int a2, .int a3] h (some (.int ro_), ho_) := by
  unfold zx_chance at hf
  obtain ⟨d, rfl⟩ : ∃ d', d = d' + 1 := ⟨d - 1, by omega⟩
  have hd : 1 ≤ d := by omega
  show zq_wp sc (d + 1) 128 0 [some (.ref a0), some (.int a1), some (.int a2), some (.int a3), none, none, none, none, none] [] h _
  refine zq_wg 1 (pc' := 1) (lv' := [some (.ref a0), some (.int a1), some (.int a2), some (.int a3), none, none, none, none, none]) (st' := [.ref a0]) (h' := h) rfl ?_
  obtain ⟨v1, e2, hf⟩ := zo_b_s hf
  refine zr_gR rfl rfl (by decide) rfl e2 ?_
  refine zq_wg 1 (pc' := 5) (lv' := [some (.ref a0), some (.int a1), some (.int a2), some (.int a3), none, none, none, none, none]) (st' := [.int a1, .ref v1]) (h' := h) rfl ?_
  obtain ⟨e6, v4, h3, e5, hf⟩ := zo_v_s hf
  refine zr_cv zq_m127 [.int a1] [] rfl rfl rfl rfl rfl (Nat.le_of_ble_eq_true rfl) (Nat.le_of_ble_eq_true rfl) e6 (zx_Notes_ticketsOf_ok sc d (by omega) e5) ?_
  refine zq_wg 0 (pc' := 8) (lv' := [some (.ref a0), some (.int a1), some (.int a2), some (.int a3), none, none, none, none, none]) (st' := [.int v4]) (h' := h3) rfl ?_
  refine zq_wg 7 (pc' := 18) (lv' := [some (.ref a0), some (.int a1), some (.int a2), some (.int a3), some (.int (v4 + a3)), some (.int a3), some (.int (0 : Int32)), none, none]) (st' := []) (h' := h3) rfl ?_
  refine zq_fg [some (.ref a0), some (.int a1), some (.int a2), none, some (.int (v4 + a3)), some (.int a3), some (.int (0 : Int32)), none, none] (zq_lvle_s (zq_lvle_s (zq_lvle_s (zq_lvle_n (zq_lvle_s (zq_lvle_s (zq_lvle_s (zq_lvle_s (zq_lvle_s zq_lvle_nil))))))))) ?_
  refine zx_chance_l18_ok sc d hd zo_F a0 a1 a2 (v4 + a3) a3 (0 : Int32) h3 _ _ _ ?_ hf
  · intro x49 x50 x51 x52 h53 hf
    refine zq_wg 4 (pc' := 87) (lv' := [some (.ref x49), none, some (.int x50), none, some (.int x51), some (.int x52), some (.int (0 : Int32)), some (.int (0 : Int32)), none]) (st' := []) (h' := h53) rfl ?_
    refine zx_chance_l87_ok sc d hd zo_F x49 x50 x51 x52 (0 : Int32) (0 : Int32) h53 _ _ _ ?_ hf
    · intro x86 x87 x88 x89 h90 hf
      refine zq_wg 1 (pc' := 137) (lv' := [some (.ref x86), none, none, none, some (.int x87), some (.int x88), some (.int x89), none, none]) (st' := [.ref x86]) (h' := h90) rfl ?_
      obtain ⟨v91, e92, hf⟩ := zo_b_s hf
      refine zr_gR rfl rfl (by decide) rfl e92 ?_
      obtain ⟨v93, e94, hf⟩ := zo_b_s hf
      refine zr_gI rfl rfl (by decide) rfl e94 ?_
      refine zq_wg 1 (pc' := 145) (lv' := [some (.ref x86), none, none, none, some (.int x87), some (.int x88), some (.int x89), none, none]) (st' := [.int x87, .int v93]) (h' := h90) rfl ?_
      obtain ⟨v96, h95, e97, hf⟩ := zo_c_s hf
      refine zr_cs zq_m107 [.int v93, .int x87] [] rfl rfl (by decide) rfl rfl rfl (Nat.le_of_ble_eq_true rfl) (Nat.le_of_ble_eq_true rfl) (zx_power_ok sc d (by omega) e97) ?_
      refine zq_wg 0 (pc' := 148) (lv' := [some (.ref x86), none, none, none, some (.int x87), some (.int x88), some (.int x89), none, none]) (st' := [.long v96]) (h' := h95) rfl ?_
      refine zq_wg 4 (pc' := 154) (lv' := [some (.ref x86), none, none, none, some (.int x87), some (.int x88), some (.int x89), some (.long v96), none]) (st' := [.int (lg_cmp v96 (0 : Int64))]) (h' := h95) rfl ?_
      refine zr_if ((lg_cmp v96 (0 : Int64)) ≤ 0) 187 157 (st' := []) rfl rfl (fun b98 => ?_) (fun b98 => ?_)
      · have hf := zo_t hf b98
        refine zq_wg 1 (pc' := 188) (lv' := [some (.ref x86), none, none, none, some (.int x87), some (.int x88), some (.int x89), some (.long v96), none]) (st' := [.int (-1 : Int32)]) (h' := h95) rfl ?_
        exact zr_ri rfl rfl rfl hf
      · have hf := zo_f hf b98
        refine zq_wg 2 (pc' := 160) (lv' := [some (.ref x86), none, none, none, some (.int x87), some (.int x88), some (.int x89), some (.long v96), none]) (st' := [.ref x86, .int x89]) (h' := h95) rfl ?_
        obtain ⟨v99, e100, hf⟩ := zo_b_s hf
        refine zr_gR rfl rfl (by decide) rfl e100 ?_
        obtain ⟨v101, e102, hf⟩ := zo_b_s hf
        refine zr_gI rfl rfl (by decide) rfl e102 ?_
        refine zq_wg 4 (pc' := 173) (lv' := [some (.ref x86), none, none, none, some (.int x87), some (.int x88), some (.int x89), some (.long v96), none]) (st' := [.int x88, .int x87, .int (v101 - x89), .int x89]) (h' := h95) rfl ?_
        obtain ⟨v104, h103, e105, hf⟩ := zo_c_s hf
        refine zr_cs zq_m129 [.int x89, .int (v101 - x89), .int x87, .int x88] [] rfl rfl (by decide) rfl rfl rfl (Nat.le_of_ble_eq_true rfl) (Nat.le_of_ble_eq_true rfl) (zx_luckyWays_ok sc d (by omega) e105) ?_
        refine zq_wg 0 (pc' := 176) (lv' := [some (.ref x86), none, none, none, some (.int x87), some (.int x88), some (.int x89), some (.long v96), none]) (st' := [.long v104]) (h' := h103) rfl ?_
        refine zq_wg 3 (pc' := 182) (lv' := [some (.ref x86), none, none, none, some (.int x87), some (.int x88), some (.int x89), some (.long v96), none]) (st' := [.long v96, .long (v104 * (1000000 : Int64))]) (h' := h103) rfl ?_
        obtain ⟨v106, e107, hf⟩ := zo_b_s hf
        refine zr_ldiv rfl e107 ?_
        refine zq_wg 2 (pc' := 188) (lv' := [some (.ref x86), none, none, none, some (.int x87), some (.int x88), some (.int x89), some (.long v96), none]) (st' := [.int v106.toInt32]) (h' := h103) rfl ?_
        exact zr_ri rfl rfl rfl hf
set_option maxRecDepth 4000 in
def zx_fair (sc : zX) (a0 : Nat) (a1 : Int32) (a2 : Int32) (h : zH) : Option (Int32 × zH) := zo_v h a0 9 (zx_canWeigh sc a0 a1 a2 h) (fun v2 h1 => if v2 = 0 then (some ((-1 : Int32), h1)) else (zo_v h1 a0 9 (zx_chance sc a0 a1 a2 (0 : Int32) h1) (fun v7 h6 => some (v7, h6))))
set_option maxRecDepth 4000 in
theorem zx_fair_ok (sc : zX) (d : Nat) (hd : 3 ≤ d) {a0 : Nat} {a1 : Int32} {a2 : Int32} {h : zH} {ro_ : Int32} {ho_ : zH} (hf : zx_fair sc a0 a1 a2 h = some (ro_, ho_)) : zq_wm sc d 125 [.ref a0, .int a1, .int a2] h (some (.int ro_), ho_) := by
  unfold zx_fair at hf
  obtain ⟨d, rfl⟩ : ∃ d', d = d' + 1 := ⟨d - 1, by omega⟩
  have hd : 2 ≤ d := by omega
  show zq_wp sc (d + 1) 125 0 [some (.ref a0), some (.int a1), some (.int a2)] [] h _
  refine zq_wg 3 (pc' := 3) (lv' := [some (.ref a0), some (.int a1), some (.int a2)]) (st' := [.int a2, .int a1, .ref a0]) (h' := h) rfl ?_
  obtain ⟨e4, v2, h1, e3, hf⟩ := zo_v_s hf
  refine zr_cv zq_m126 [.int a1, .int a2] [] rfl rfl rfl rfl rfl (Nat.le_of_ble_eq_true rfl) (Nat.le_of_ble_eq_true rfl) e4 (zx_canWeigh_ok sc d (by omega) e3) ?_
  refine zq_wg 0 (pc' := 6) (lv' := [some (.ref a0), some (.int a1), some (.int a2)]) (st' := [.int v2]) (h' := h1) rfl ?_
  refine zr_if (v2 = 0) 9 11 (st' := []) rfl rfl (fun b5 => ?_) (fun b5 => ?_)
  · have hf := zo_t hf b5
    refine zq_wg 1 (pc' := 10) (lv' := [some (.ref a0), some (.int a1), some (.int a2)]) (st' := [.int (-1 : Int32)]) (h' := h1) rfl ?_
    exact zr_ri rfl rfl rfl hf
  · have hf := zo_f hf b5
    refine zq_wg 4 (pc' := 15) (lv' := [some (.ref a0), some (.int a1), some (.int a2)]) (st' := [.int (0 : Int32), .int a2, .int a1, .ref a0]) (h' := h1) rfl ?_
    obtain ⟨e9, v7, h6, e8, hf⟩ := zo_v_s hf
    refine zr_cv zq_m128 [.int a1, .int a2, .int (0 : Int32)] [] rfl rfl rfl rfl rfl (Nat.le_of_ble_eq_true rfl) (Nat.le_of_ble_eq_true rfl) e9 (zx_chance_ok sc d (by omega) e8) ?_
    refine zq_wg 0 (pc' := 18) (lv' := [some (.ref a0), some (.int a1), some (.int a2)]) (st' := [.int v7]) (h' := h6) rfl ?_
    exact zr_ri rfl rfl rfl hf
set_option maxRecDepth 4000 in
def zx_more_l25 (sc : zX) : Nat → Nat → Int32 → Int32 → Int32 → Int32 → zH → Option (Int32 × zH)
  | 0, _, _, _, _, _, _ => none
  | n + 1, y10, y11, y12, y13, y14, h15 => if (8 : Int32) < y14 then (some ((-1 : Int32), h15)) else (zo_v h15 y10 9 (zx_chance sc y10 y11 y12 y14 h15) (fun v18 h17 => if y13 ≤ v18 then (zx_more_l25 sc n y10 y11 y12 y13 (y14 + (1 : Int32)) h17 ) else (some (y14, h17))))
set_option maxRecDepth 4000 in
def zx_more (sc : zX) (a0 : Nat) (a1 : Int32) (a2 : Int32) (a3 : Int32) (h : zH) : Option (Int32 × zH) := zo_v h a0 9 (zx_canWeigh sc a0 a1 a2 h) (fun v2 h1 => if v2 = 0 then (some ((-1 : Int32), h1)) else (zo_c (zx_within sc a3 (1 : Int32) (1000000 : Int32) h1) (fun v7 h6 => if v7 = 0 then (some ((-1 : Int32), h6)) else (zx_more_l25 sc zo_F a0 a1 a2 a3 (0 : Int32) h6 ))))
set_option maxRecDepth 4000 in
theorem zx_more_l25_ok (sc : zX) (d : Nat) (hd : 2 ≤ d) : ∀ (n : Nat) (y10 : Nat) (y11 : Int32) (y12 : Int32) (y13 : Int32) (y14 : Int32) (h15 : zH) (ro_ : Int32) (ho_ : zH),  zx_more_l25 sc n y10 y11 y12 y13 y14 h15  = some (ro_, ho_) → zq_wp sc (d + 1) 130 25 [some (.ref y10), some (.int y11), some (.int y12), some (.int y13), some (.int y14)] [] h15 (some (.int ro_), ho_) := by
  intro n
  induction n with
  | zero => intro y10 y11 y12 y13 y14 h15 ro_ ho_ hf; cases hf
  | succ n ih =>
    intro y10 y11 y12 y13 y14 h15 ro_ ho_ hf
    refine zq_wg 2 (pc' := 29) (lv' := [some (.ref y10), some (.int y11), some (.int y12), some (.int y13), some (.int y14)]) (st' := [.int (8 : Int32), .int y14]) (h' := h15) rfl ?_
    refine zr_if ((8 : Int32) < y14) 53 32 (st' := []) rfl rfl (fun b16 => ?_) (fun b16 => ?_)
    · have hf := zo_t hf b16
      refine zq_wg 1 (pc' := 54) (lv' := [some (.ref y10), some (.int y11), some (.int y12), some (.int y13), some (.int y14)]) (st' := [.int (-1 : Int32)]) (h' := h15) rfl ?_
      exact zr_ri rfl rfl rfl hf
    · have hf := zo_f hf b16
      refine zq_wg 4 (pc' := 37) (lv' := [some (.ref y10), some (.int y11), some (.int y12), some (.int y13), some (.int y14)]) (st' := [.int y14, .int y12, .int y11, .ref y10]) (h' := h15) rfl ?_
      obtain ⟨e20, v18, h17, e19, hf⟩ := zo_v_s hf
      refine zr_cv zq_m128 [.int y11, .int y12, .int y14] [] rfl rfl rfl rfl rfl (Nat.le_of_ble_eq_true rfl) (Nat.le_of_ble_eq_true rfl) e20 (zx_chance_ok sc d (by omega) e19) ?_
      refine zq_wg 0 (pc' := 40) (lv' := [some (.ref y10), some (.int y11), some (.int y12), some (.int y13), some (.int y14)]) (st' := [.int v18]) (h' := h17) rfl ?_
      refine zq_wg 1 (pc' := 41) (lv' := [some (.ref y10), some (.int y11), some (.int y12), some (.int y13), some (.int y14)]) (st' := [.int y13, .int v18]) (h' := h17) rfl ?_
      refine zr_if (y13 ≤ v18) 47 44 (st' := []) rfl rfl (fun b21 => ?_) (fun b21 => ?_)
      · have hf := zo_t hf b21
        refine zq_wg 2 (pc' := 25) (lv' := [some (.ref y10), some (.int y11), some (.int y12), some (.int y13), some (.int (y14 + (1 : Int32)))]) (st' := []) (h' := h17) rfl ?_
        exact ih y10 y11 y12 y13 (y14 + (1 : Int32)) h17 _ _ hf
      · have hf := zo_f hf b21
        refine zq_wg 1 (pc' := 46) (lv' := [some (.ref y10), some (.int y11), some (.int y12), some (.int y13), some (.int y14)]) (st' := [.int y14]) (h' := h17) rfl ?_
        exact zr_ri rfl rfl rfl hf
set_option maxRecDepth 4000 in
theorem zx_more_ok (sc : zX) (d : Nat) (hd : 3 ≤ d) {a0 : Nat} {a1 : Int32} {a2 : Int32} {a3 : Int32} {h : zH} {ro_ : Int32} {ho_ : zH} (hf : zx_more sc a0 a1 a2 a3 h = some (ro_, ho_)) : zq_wm sc d 130 [.ref a0, .int a1, .int a2, .int a3] h (some (.int ro_), ho_) := by
  unfold zx_more at hf
  obtain ⟨d, rfl⟩ : ∃ d', d = d' + 1 := ⟨d - 1, by omega⟩
  have hd : 2 ≤ d := by omega
  show zq_wp sc (d + 1) 130 0 [some (.ref a0), some (.int a1), some (.int a2), some (.int a3), none] [] h _
  refine zq_wg 3 (pc' := 3) (lv' := [some (.ref a0), some (.int a1), some (.int a2), some (.int a3), none]) (st' := [.int a2, .int a1, .ref a0]) (h' := h) rfl ?_
  obtain ⟨e4, v2, h1, e3, hf⟩ := zo_v_s hf
  refine zr_cv zq_m126 [.int a1, .int a2] [] rfl rfl rfl rfl rfl (Nat.le_of_ble_eq_true rfl) (Nat.le_of_ble_eq_true rfl) e4 (zx_canWeigh_ok sc d (by omega) e3) ?_
  refine zq_wg 0 (pc' := 6) (lv' := [some (.ref a0), some (.int a1), some (.int a2), some (.int a3), none]) (st' := [.int v2]) (h' := h1) rfl ?_
  refine zr_if (v2 = 0) 20 9 (st' := []) rfl rfl (fun b5 => ?_) (fun b5 => ?_)
  · have hf := zo_t hf b5
    refine zq_wg 1 (pc' := 21) (lv' := [some (.ref a0), some (.int a1), some (.int a2), some (.int a3), none]) (st' := [.int (-1 : Int32)]) (h' := h1) rfl ?_
    exact zr_ri rfl rfl rfl hf
  · have hf := zo_f hf b5
    refine zq_wg 3 (pc' := 14) (lv' := [some (.ref a0), some (.int a1), some (.int a2), some (.int a3), none]) (st' := [.int (1000000 : Int32), .int (1 : Int32), .int a3]) (h' := h1) rfl ?_
    obtain ⟨v7, h6, e8, hf⟩ := zo_c_s hf
    refine zr_cs zq_m35 [.int a3, .int (1 : Int32), .int (1000000 : Int32)] [] rfl rfl (by decide) rfl rfl rfl (Nat.le_of_ble_eq_true rfl) (Nat.le_of_ble_eq_true rfl) (zx_within_ok sc d (by omega) e8) ?_
    refine zq_wg 0 (pc' := 17) (lv' := [some (.ref a0), some (.int a1), some (.int a2), some (.int a3), none]) (st' := [.int v7]) (h' := h6) rfl ?_
    refine zr_if (v7 = 0) 20 22 (st' := []) rfl rfl (fun b9 => ?_) (fun b9 => ?_)
    · have hf := zo_t hf b9
      refine zq_wg 1 (pc' := 21) (lv' := [some (.ref a0), some (.int a1), some (.int a2), some (.int a3), none]) (st' := [.int (-1 : Int32)]) (h' := h6) rfl ?_
      exact zr_ri rfl rfl rfl hf
    · have hf := zo_f hf b9
      refine zq_wg 2 (pc' := 25) (lv' := [some (.ref a0), some (.int a1), some (.int a2), some (.int a3), some (.int (0 : Int32))]) (st' := []) (h' := h6) rfl ?_
      refine zx_more_l25_ok sc d hd zo_F a0 a1 a2 a3 (0 : Int32) h6 _ _ hf
set_option maxRecDepth 4000 in
def zx_see (sc : zX) (a0 : Nat) (a1 : Int32) (h : zH) : Option (Int32 × zH) := zo_b (zo_gR h 9 a0 11) (fun v1 => zo_b (zo_gI h 0 v1 2) (fun v3 => zo_c (zx_within sc a1 (0 : Int32) v3 h) (fun v6 h5 => if v6 = 0 then (some ((0 : Int32), h5)) else (zo_b (zo_gR h5 9 a0 3) (fun v9 => zo_b (zo_gI h5 2 v9 3) (fun v11 => if v11 < (5 : Int32) then (zo_b (zo_gR h5 9 a0 3) (fun v14 => zo_b (zo_gR h5 2 v14 0) (fun v16 => zo_b (zo_gR h5 9 a0 3) (fun v18 => zo_b (zo_gI h5 2 v18 3) (fun v20 => zo_c (zx_put sc v16 v20 a1 h5) (fun w23 h22 => zo_b (zo_gR h22 9 a0 3) (fun v25 => zo_b (zo_gI h22 2 v25 3) (fun v27 => zo_b (zo_pI h22 2 v25 3 (v27 + (1 : Int32))) (fun h29 => some ((1 : Int32), h29)))))))))) else (some ((0 : Int32), h5))))))))
set_option maxRecDepth 4000 in
theorem zx_see_ok (sc : zX) (d : Nat) (hd : 1 ≤ d) {a0 : Nat} {a1 : Int32} {h : zH} {ro_ : Int32} {ho_ : zH} (hf : zx_see sc a0 a1 h = some (ro_, ho_)) : zq_wm sc d 131 [.ref a0, .int a1] h (some (.int ro_), ho_) := by
  unfold zx_see at hf
  obtain ⟨d, rfl⟩ : ∃ d', d = d' + 1 := ⟨d - 1, by omega⟩
  have hd : 0 ≤ d := by omega
  show zq_wp sc (d + 1) 131 0 [some (.ref a0), some (.int a1)] [] h _
  refine zq_wg 3 (pc' := 3) (lv' := [some (.ref a0), some (.int a1)]) (st' := [.ref a0, .int (0 : Int32), .int a1]) (h' := h) rfl ?_
  obtain ⟨v1, e2, hf⟩ := zo_b_s hf
  refine zr_gR rfl rfl (by decide) rfl e2 ?_
  obtain ⟨v3, e4, hf⟩ := zo_b_s hf
  refine zr_gI rfl rfl (by decide) rfl e4 ?_
  obtain ⟨v6, h5, e7, hf⟩ := zo_c_s hf
  refine zr_cs zq_m35 [.int a1, .int (0 : Int32), .int v3] [] rfl rfl (by decide) rfl rfl rfl (Nat.le_of_ble_eq_true rfl) (Nat.le_of_ble_eq_true rfl) (zx_within_ok sc d (by omega) e7) ?_
  refine zq_wg 0 (pc' := 12) (lv' := [some (.ref a0), some (.int a1)]) (st' := [.int v6]) (h' := h5) rfl ?_
  refine zr_if (v6 = 0) 26 15 (st' := []) rfl rfl (fun b8 => ?_) (fun b8 => ?_)
  · have hf := zo_t hf b8
    refine zq_wg 1 (pc' := 27) (lv' := [some (.ref a0), some (.int a1)]) (st' := [.int (0 : Int32)]) (h' := h5) rfl ?_
    exact zr_ri rfl rfl rfl hf
  · have hf := zo_f hf b8
    refine zq_wg 1 (pc' := 16) (lv' := [some (.ref a0), some (.int a1)]) (st' := [.ref a0]) (h' := h5) rfl ?_
    obtain ⟨v9, e10, hf⟩ := zo_b_s hf
    refine zr_gR rfl rfl (by decide) rfl e10 ?_
    obtain ⟨v11, e12, hf⟩ := zo_b_s hf
    refine zr_gI rfl rfl (by decide) rfl e12 ?_
    refine zq_wg 1 (pc' := 23) (lv' := [some (.ref a0), some (.int a1)]) (st' := [.int (5 : Int32), .int v11]) (h' := h5) rfl ?_
    refine zr_if (v11 < (5 : Int32)) 28 26 (st' := []) rfl rfl (fun b13 => ?_) (fun b13 => ?_)
    · have hf := zo_t hf b13
      refine zq_wg 1 (pc' := 29) (lv' := [some (.ref a0), some (.int a1)]) (st' := [.ref a0]) (h' := h5) rfl ?_
      obtain ⟨v14, e15, hf⟩ := zo_b_s hf
      refine zr_gR rfl rfl (by decide) rfl e15 ?_
      obtain ⟨v16, e17, hf⟩ := zo_b_s hf
      refine zr_gR rfl rfl (by decide) rfl e17 ?_
      refine zq_wg 1 (pc' := 36) (lv' := [some (.ref a0), some (.int a1)]) (st' := [.ref a0, .ref v16]) (h' := h5) rfl ?_
      obtain ⟨v18, e19, hf⟩ := zo_b_s hf
      refine zr_gR rfl rfl (by decide) rfl e19 ?_
      obtain ⟨v20, e21, hf⟩ := zo_b_s hf
      refine zr_gI rfl rfl (by decide) rfl e21 ?_
      refine zq_wg 1 (pc' := 43) (lv' := [some (.ref a0), some (.int a1)]) (st' := [.int a1, .int v20, .ref v16]) (h' := h5) rfl ?_
      obtain ⟨w23, h22, e24, hf⟩ := zo_c_s hf
      refine zr_cs zq_m11 [.ref v16, .int v20, .int a1] [] rfl rfl (by decide) rfl rfl rfl (Nat.le_of_ble_eq_true rfl) (Nat.le_of_ble_eq_true rfl) (zx_put_ok sc d (by omega) e24) ?_
      refine zq_wg 0 (pc' := 46) (lv' := [some (.ref a0), some (.int a1)]) (st' := []) (h' := h22) rfl ?_
      refine zq_wg 1 (pc' := 47) (lv' := [some (.ref a0), some (.int a1)]) (st' := [.ref a0]) (h' := h22) rfl ?_
      obtain ⟨v25, e26, hf⟩ := zo_b_s hf
      refine zr_gR rfl rfl (by decide) rfl e26 ?_
      refine zq_wg 1 (pc' := 51) (lv' := [some (.ref a0), some (.int a1)]) (st' := [.ref v25, .ref v25]) (h' := h22) rfl ?_
      obtain ⟨v27, e28, hf⟩ := zo_b_s hf
      refine zr_gI rfl rfl (by decide) rfl e28 ?_
      refine zq_wg 2 (pc' := 56) (lv' := [some (.ref a0), some (.int a1)]) (st' := [.int (v27 + (1 : Int32)), .ref v25]) (h' := h22) rfl ?_
      obtain ⟨h29, e30, hf⟩ := zo_b_s hf
      refine zr_pI rfl rfl (by decide) rfl rfl e30 ?_
      refine zq_wg 1 (pc' := 60) (lv' := [some (.ref a0), some (.int a1)]) (st' := [.int (1 : Int32)]) (h' := h29) rfl ?_
      exact zr_ri rfl rfl rfl hf
    · have hf := zo_f hf b13
      refine zq_wg 1 (pc' := 27) (lv' := [some (.ref a0), some (.int a1)]) (st' := [.int (0 : Int32)]) (h' := h5) rfl ?_
      exact zr_ri rfl rfl rfl hf
set_option maxRecDepth 4000 in
def zx_rowsSeen_l60 (sc : zX) : Nat → Nat → Int32 → Int32 → Int32 → Int32 → Int32 → Int32 → Int32 → zH → (Nat → Int32 → Int32 → Int32 → Int32 → Int32 → zH → Option (Int32 × zH)) → Option (Int32 × zH)
  | 0, _, _, _, _, _, _, _, _, _, _ => none
  | n + 1, y33, y34, y35, y36, y37, y38, y39, y40, h41, k115 => if y40 < 0 then (k115 y33 y34 y35 y37 y38 y39 h41) else (zo_b (zo_gR h41 9 y33 11) (fun v43 => zo_b (zo_gR h41 9 y33 11) (fun v45 => zo_b (zo_gR h41 9 y33 11) (fun v47 => zo_b (zo_gI h41 0 v47 4) (fun v49 => zo_v h41 v45 0 (zx_Army_move sc v45 y34 v49 y40 h41) (fun v52 h51 => zo_v h51 v43 0 (zx_Army_after sc v43 y36 v52 h51) (fun v56 h55 => zo_l (fun (x59 : Nat) (x60 : Int32) (x61 : Int32) (x62 : Int32) (x63 : Int32) (x64 : Int32) (x65 : Int32) (x66 : Int32) (h67 : zH) => zx_rowsSeen_l60 sc n x59 x60 x61 x62 x63 x64 x65 (x66 + (-1 : Int32)) h67 k115) (fun j109_67 => if v56 = y38 then (zo_b (zo_gR h55 9 y33 10) (fun v69 => zo_c (zx_put sc v69 y37 y40 h55) (fun w72 h71 => j109_67 y33 y34 y35 y36 y37 y38 (y39 + (1 : Int32)) y40 h71))) else (j109_67 y33 y34 y35 y36 y37 y38 y39 y40 h55)))))))))
set_option maxRecDepth 4000 in
def zx_rowsSeen_l28 (sc : zX) : Nat → Nat → Int32 → Int32 → Int32 → Int32 → zH → Option (Int32 × zH)
  | 0, _, _, _, _, _, _ => none
  | n + 1, y15, y16, y17, y18, y19, h20 => zo_b (zo_gR h20 9 y15 3) (fun v21 => zo_b (zo_gI h20 2 v21 3) (fun v23 => if v23 ≤ y19 then (some (y17, h20)) else (zo_b (zo_gR h20 9 y15 3) (fun v26 => zo_b (zo_gR h20 2 v26 0) (fun v28 => zo_c (zx_at sc v28 y19 h20) (fun v31 h30 => zx_rowsSeen_l60 sc zo_F y15 y16 y17 y18 y19 v31 (0 : Int32) (2 : Int32) h30 (fun (x74 : Nat) (x75 : Int32) (x76 : Int32) (x77 : Int32) (x78 : Int32) (x79 : Int32) (h80 : zH) => zx_rowsSeen_l28 sc n x74 x75 (x76 * x79) x78 (x77 + (1 : Int32)) h80 )))))))
set_option maxRecDepth 4000 in
def zx_rowsSeen (sc : zX) (a0 : Nat) (h : zH) : Option (Int32 × zH) := zo_b (zo_gR h 9 a0 11) (fun v1 => zo_b (zo_gR h 9 a0 1) (fun v3 => zo_b (zo_gR h 4 v3 0) (fun v5 => zo_v h v1 0 (zx_Army_strength sc v1 v5 h) (fun v8 h7 => zo_b (zo_gR h7 9 a0 1) (fun v11 => zo_b (zo_gI h7 4 v11 3) (fun v13 => zx_rowsSeen_l28 sc zo_F a0 v8 (1 : Int32) v13 (0 : Int32) h7 ))))))
set_option maxRecDepth 4000 in
theorem zx_rowsSeen_l60_ok (sc : zX) (d : Nat) (hd : 3 ≤ d) : ∀ (n : Nat) (y33 : Nat) (y34 : Int32) (y35 : Int32) (y36 : Int32) (y37 : Int32) (y38 : Int32) (y39 : Int32) (y40 : Int32) (h41 : zH) (k115 : Nat → Int32 → Int32 → Int32 → Int32 → Int32 → zH → Option (Int32 × zH)) (ro_ : Int32) (ho_ : zH), (∀ (z0 : Nat) (z1 : Int32) (z2 : Int32) (z3 : Int32) (z4 : Int32) (z5 : Int32) (hz : zH), k115 z0 z1 z2 z3 z4 z5 hz = some (ro_, ho_) → zq_wp sc (d + 1) 133 115 [some (.ref z0), some (.int z1), some (.int z2), none, some (.int z3), some (.int z4), some (.int z5), none] [] hz (some (.int ro_), ho_)) → zx_rowsSeen_l60 sc n y33 y34 y35 y36 y37 y38 y39 y40 h41 k115 = some (ro_, ho_) → zq_wp sc (d + 1) 133 60 [some (.ref y33), some (.int y34), some (.int y35), some (.int y36), some (.int y37), some (.int y38), some (.int y39), some (.int y40)] [] h41 (some (.int ro_), ho_) := by
  intro n
  induction n with
  | zero => intro y33 y34 y35 y36 y37 y38 y39 y40 h41 k115 ro_ ho_ hk115 hf; cases hf
  | succ n ih =>
    intro y33 y34 y35 y36 y37 y38 y39 y40 h41 k115 ro_ ho_ hk115 hf
    refine zq_wg 1 (pc' := 62) (lv' := [some (.ref y33), some (.int y34), some (.int y35), some (.int y36), some (.int y37), some (.int y38), some (.int y39), some (.int y40)]) (st' := [.int y40]) (h' := h41) rfl ?_
    refine zr_if (y40 < 0) 115 65 (st' := []) rfl rfl (fun b42 => ?_) (fun b42 => ?_)
    · have hf := zo_t hf b42
      refine zq_fg [some (.ref y33), some (.int y34), some (.int y35), none, some (.int y37), some (.int y38), some (.int y39), none] (zq_lvle_s (zq_lvle_s (zq_lvle_s (zq_lvle_n (zq_lvle_s (zq_lvle_s (zq_lvle_s (zq_lvle_n zq_lvle_nil)))))))) ?_
      exact hk115 y33 y34 y35 y37 y38 y39 h41 hf
    · have hf := zo_f hf b42
      refine zq_wg 1 (pc' := 66) (lv' := [some (.ref y33), some (.int y34), some (.int y35), some (.int y36), some (.int y37), some (.int y38), some (.int y39), some (.int y40)]) (st' := [.ref y33]) (h' := h41) rfl ?_
      obtain ⟨v43, e44, hf⟩ := zo_b_s hf
      refine zr_gR rfl rfl (by decide) rfl e44 ?_
      refine zq_wg 2 (pc' := 71) (lv' := [some (.ref y33), some (.int y34), some (.int y35), some (.int y36), some (.int y37), some (.int y38), some (.int y39), some (.int y40)]) (st' := [.ref y33, .int y36, .ref v43]) (h' := h41) rfl ?_
      obtain ⟨v45, e46, hf⟩ := zo_b_s hf
      refine zr_gR rfl rfl (by decide) rfl e46 ?_
      refine zq_wg 2 (pc' := 76) (lv' := [some (.ref y33), some (.int y34), some (.int y35), some (.int y36), some (.int y37), some (.int y38), some (.int y39), some (.int y40)]) (st' := [.ref y33, .int y34, .ref v45, .int y36, .ref v43]) (h' := h41) rfl ?_
      obtain ⟨v47, e48, hf⟩ := zo_b_s hf
      refine zr_gR rfl rfl (by decide) rfl e48 ?_
      obtain ⟨v49, e50, hf⟩ := zo_b_s hf
      refine zr_gI rfl rfl (by decide) rfl e50 ?_
      refine zq_wg 1 (pc' := 84) (lv' := [some (.ref y33), some (.int y34), some (.int y35), some (.int y36), some (.int y37), some (.int y38), some (.int y39), some (.int y40)]) (st' := [.int y40, .int v49, .int y34, .ref v45, .int y36, .ref v43]) (h' := h41) rfl ?_
      obtain ⟨e54, v52, h51, e53, hf⟩ := zo_v_s hf
      refine zr_cv zq_m90 [.int y34, .int v49, .int y40] [.int y36, .ref v43] rfl rfl rfl rfl rfl (Nat.le_of_ble_eq_true rfl) (Nat.le_of_ble_eq_true rfl) e54 (zx_Army_move_ok sc d (by omega) e53) ?_
      refine zq_wg 0 (pc' := 87) (lv' := [some (.ref y33), some (.int y34), some (.int y35), some (.int y36), some (.int y37), some (.int y38), some (.int y39), some (.int y40)]) (st' := [.int v52, .int y36, .ref v43]) (h' := h51) rfl ?_
      obtain ⟨e58, v56, h55, e57, hf⟩ := zo_v_s hf
      refine zr_cv zq_m92 [.int y36, .int v52] [] rfl rfl rfl rfl rfl (Nat.le_of_ble_eq_true rfl) (Nat.le_of_ble_eq_true rfl) e58 (zx_Army_after_ok sc d (by omega) e57) ?_
      refine zq_wg 0 (pc' := 90) (lv' := [some (.ref y33), some (.int y34), some (.int y35), some (.int y36), some (.int y37), some (.int y38), some (.int y39), some (.int y40)]) (st' := [.int v56]) (h' := h55) rfl ?_
      refine zq_wg 1 (pc' := 92) (lv' := [some (.ref y33), some (.int y34), some (.int y35), some (.int y36), some (.int y37), some (.int y38), some (.int y39), some (.int y40)]) (st' := [.int y38, .int v56]) (h' := h55) rfl ?_
      obtain ⟨j109_67, hjj109_67, hf⟩ := zo_lj hf
      have kj109_67 : ∀ (x59 : Nat) (x60 : Int32) (x61 : Int32) (x62 : Int32) (x63 : Int32) (x64 : Int32) (x65 : Int32) (x66 : Int32) (h67 : zH), j109_67 x59 x60 x61 x62 x63 x64 x65 x66 h67 = some (ro_, ho_) → zq_wp sc (d + 1) 133 109 [some (.ref x59), some (.int x60), some (.int x61), some (.int x62), some (.int x63), some (.int x64), some (.int x65), some (.int x66)] [] h67 (some (.int ro_), ho_) := by
        intro x59 x60 x61 x62 x63 x64 x65 x66 h67 hf
        rw [hjj109_67] at hf
        refine zq_wg 2 (pc' := 60) (lv' := [some (.ref x59), some (.int x60), some (.int x61), some (.int x62), some (.int x63), some (.int x64), some (.int x65), some (.int (x66 + (-1 : Int32)))]) (st' := []) (h' := h67) rfl ?_
        exact ih x59 x60 x61 x62 x63 x64 x65 (x66 + (-1 : Int32)) h67 _ _ _ hk115 hf
      refine zr_if (v56 = y38) 95 109 (st' := []) rfl rfl (fun b68 => ?_) (fun b68 => ?_)
      · have hf := zo_t hf b68
        refine zq_wg 2 (pc' := 99) (lv' := [some (.ref y33), some (.int y34), some (.int y35), some (.int y36), some (.int y37), some (.int y38), some (.int (y39 + (1 : Int32))), some (.int y40)]) (st' := [.ref y33]) (h' := h55) rfl ?_
        obtain ⟨v69, e70, hf⟩ := zo_b_s hf
        refine zr_gR rfl rfl (by decide) rfl e70 ?_
        refine zq_wg 2 (pc' := 106) (lv' := [some (.ref y33), some (.int y34), some (.int y35), some (.int y36), some (.int y37), some (.int y38), some (.int (y39 + (1 : Int32))), some (.int y40)]) (st' := [.int y40, .int y37, .ref v69]) (h' := h55) rfl ?_
        obtain ⟨w72, h71, e73, hf⟩ := zo_c_s hf
        refine zr_cs zq_m11 [.ref v69, .int y37, .int y40] [] rfl rfl (by decide) rfl rfl rfl (Nat.le_of_ble_eq_true rfl) (Nat.le_of_ble_eq_true rfl) (zx_put_ok sc d (by omega) e73) ?_
        refine zq_wg 0 (pc' := 109) (lv' := [some (.ref y33), some (.int y34), some (.int y35), some (.int y36), some (.int y37), some (.int y38), some (.int (y39 + (1 : Int32))), some (.int y40)]) (st' := []) (h' := h71) rfl ?_
        exact kj109_67 y33 y34 y35 y36 y37 y38 (y39 + (1 : Int32)) y40 h71 hf
      · have hf := zo_f hf b68
        exact kj109_67 y33 y34 y35 y36 y37 y38 y39 y40 h55 hf
set_option maxRecDepth 4000 in
theorem zx_rowsSeen_l28_ok (sc : zX) (d : Nat) (hd : 3 ≤ d) : ∀ (n : Nat) (y15 : Nat) (y16 : Int32) (y17 : Int32) (y18 : Int32) (y19 : Int32) (h20 : zH) (ro_ : Int32) (ho_ : zH),  zx_rowsSeen_l28 sc n y15 y16 y17 y18 y19 h20  = some (ro_, ho_) → zq_wp sc (d + 1) 133 28 [some (.ref y15), some (.int y16), some (.int y17), some (.int y18), some (.int y19), none, none, none] [] h20 (some (.int ro_), ho_) := by
  intro n
  induction n with
  | zero => intro y15 y16 y17 y18 y19 h20 ro_ ho_ hf; cases hf
  | succ n ih =>
    intro y15 y16 y17 y18 y19 h20 ro_ ho_ hf
    refine zq_wg 2 (pc' := 31) (lv' := [some (.ref y15), some (.int y16), some (.int y17), some (.int y18), some (.int y19), none, none, none]) (st' := [.ref y15, .int y19]) (h' := h20) rfl ?_
    obtain ⟨v21, e22, hf⟩ := zo_b_s hf
    refine zr_gR rfl rfl (by decide) rfl e22 ?_
    obtain ⟨v23, e24, hf⟩ := zo_b_s hf
    refine zr_gI rfl rfl (by decide) rfl e24 ?_
    refine zr_if (v23 ≤ y19) 129 40 (st' := []) rfl rfl (fun b25 => ?_) (fun b25 => ?_)
    · have hf := zo_t hf b25
      refine zq_wg 1 (pc' := 130) (lv' := [some (.ref y15), some (.int y16), some (.int y17), some (.int y18), some (.int y19), none, none, none]) (st' := [.int y17]) (h' := h20) rfl ?_
      exact zr_ri rfl rfl rfl hf
    · have hf := zo_f hf b25
      refine zq_wg 1 (pc' := 41) (lv' := [some (.ref y15), some (.int y16), some (.int y17), some (.int y18), some (.int y19), none, none, none]) (st' := [.ref y15]) (h' := h20) rfl ?_
      obtain ⟨v26, e27, hf⟩ := zo_b_s hf
      refine zr_gR rfl rfl (by decide) rfl e27 ?_
      obtain ⟨v28, e29, hf⟩ := zo_b_s hf
      refine zr_gR rfl rfl (by decide) rfl e29 ?_
      refine zq_wg 1 (pc' := 49) (lv' := [some (.ref y15), some (.int y16), some (.int y17), some (.int y18), some (.int y19), none, none, none]) (st' := [.int y19, .ref v28]) (h' := h20) rfl ?_
      obtain ⟨v31, h30, e32, hf⟩ := zo_c_s hf
      refine zr_cs zq_m12 [.ref v28, .int y19] [] rfl rfl (by decide) rfl rfl rfl (Nat.le_of_ble_eq_true rfl) (Nat.le_of_ble_eq_true rfl) (zx_at_ok sc d (by omega) e32) ?_
      refine zq_wg 0 (pc' := 52) (lv' := [some (.ref y15), some (.int y16), some (.int y17), some (.int y18), some (.int y19), none, none, none]) (st' := [.int v31]) (h' := h30) rfl ?_
      refine zq_wg 5 (pc' := 60) (lv' := [some (.ref y15), some (.int y16), some (.int y17), some (.int y18), some (.int y19), some (.int v31), some (.int (0 : Int32)), some (.int (2 : Int32))]) (st' := []) (h' := h30) rfl ?_
      refine zx_rowsSeen_l60_ok sc d hd zo_F y15 y16 y17 y18 y19 v31 (0 : Int32) (2 : Int32) h30 _ _ _ ?_ hf
      · intro x74 x75 x76 x77 x78 x79 h80 hf
        refine zq_wg 8 (pc' := 28) (lv' := [some (.ref x74), some (.int x75), some (.int (x76 * x79)), some (.int x78), some (.int (x77 + (1 : Int32))), some (.int x78), some (.int x79), none]) (st' := []) (h' := h80) rfl ?_
        refine zq_fg [some (.ref x74), some (.int x75), some (.int (x76 * x79)), some (.int x78), some (.int (x77 + (1 : Int32))), none, none, none] (zq_lvle_s (zq_lvle_s (zq_lvle_s (zq_lvle_s (zq_lvle_s (zq_lvle_n (zq_lvle_n (zq_lvle_s zq_lvle_nil)))))))) ?_
        exact ih x74 x75 (x76 * x79) x78 (x77 + (1 : Int32)) h80 _ _ hf
set_option maxRecDepth 4000 in
theorem zx_rowsSeen_ok (sc : zX) (d : Nat) (hd : 4 ≤ d) {a0 : Nat} {h : zH} {ro_ : Int32} {ho_ : zH} (hf : zx_rowsSeen sc a0 h = some (ro_, ho_)) : zq_wm sc d 133 [.ref a0] h (some (.int ro_), ho_) := by
  unfold zx_rowsSeen at hf
  obtain ⟨d, rfl⟩ : ∃ d', d = d' + 1 := ⟨d - 1, by omega⟩
  have hd : 3 ≤ d := by omega
  show zq_wp sc (d + 1) 133 0 [some (.ref a0), none, none, none, none, none, none, none] [] h _
  refine zq_wg 1 (pc' := 1) (lv' := [some (.ref a0), none, none, none, none, none, none, none]) (st' := [.ref a0]) (h' := h) rfl ?_
  obtain ⟨v1, e2, hf⟩ := zo_b_s hf
  refine zr_gR rfl rfl (by decide) rfl e2 ?_
  refine zq_wg 1 (pc' := 5) (lv' := [some (.ref a0), none, none, none, none, none, none, none]) (st' := [.ref a0, .ref v1]) (h' := h) rfl ?_
  obtain ⟨v3, e4, hf⟩ := zo_b_s hf
  refine zr_gR rfl rfl (by decide) rfl e4 ?_
  obtain ⟨v5, e6, hf⟩ := zo_b_s hf
  refine zr_gR rfl rfl (by decide) rfl e6 ?_
  obtain ⟨e10, v8, h7, e9, hf⟩ := zo_v_s hf
  refine zr_cv zq_m74 [.ref v5] [] rfl rfl rfl rfl rfl (Nat.le_of_ble_eq_true rfl) (Nat.le_of_ble_eq_true rfl) e10 (zx_Army_strength_ok sc d (by omega) e9) ?_
  refine zq_wg 0 (pc' := 14) (lv' := [some (.ref a0), none, none, none, none, none, none, none]) (st' := [.int v8]) (h' := h7) rfl ?_
  refine zq_wg 4 (pc' := 18) (lv' := [some (.ref a0), some (.int v8), some (.int (1 : Int32)), none, none, none, none, none]) (st' := [.ref a0]) (h' := h7) rfl ?_
  obtain ⟨v11, e12, hf⟩ := zo_b_s hf
  refine zr_gR rfl rfl (by decide) rfl e12 ?_
  obtain ⟨v13, e14, hf⟩ := zo_b_s hf
  refine zr_gI rfl rfl (by decide) rfl e14 ?_
  refine zq_wg 3 (pc' := 28) (lv' := [some (.ref a0), some (.int v8), some (.int (1 : Int32)), some (.int v13), some (.int (0 : Int32)), none, none, none]) (st' := []) (h' := h7) rfl ?_
  refine zx_rowsSeen_l28_ok sc d hd zo_F a0 v8 (1 : Int32) v13 (0 : Int32) h7 _ _ hf
set_option maxRecDepth 4000 in
def zx_orders (sc : zX) (a0 : Nat) (a1 : Int32) (h : zH) : Option (Int32 × zH) := zo_v h a0 9 (zx_rowsSeen sc a0 h) (fun v2 h1 => if a1 = (-1 : Int32) then (some (v2, h1)) else (if v2 ≤ 0 then (some ((-2 : Int32), h1)) else (zo_b (zo_gR h1 9 a0 3) (fun v7 => zo_b (zo_gI h1 2 v7 3) (fun v9 => zo_c (zx_within sc a1 (0 : Int32) (v9 - (1 : Int32)) h1) (fun v12 h11 => if v12 = 0 then (some ((-2 : Int32), h11)) else (zo_b (zo_gR h11 9 a0 10) (fun v15 => zo_c (zx_at sc v15 a1 h11) (fun v18 h17 => some (v18, h17))))))))))
set_option maxRecDepth 4000 in
theorem zx_orders_ok (sc : zX) (d : Nat) (hd : 5 ≤ d) {a0 : Nat} {a1 : Int32} {h : zH} {ro_ : Int32} {ho_ : zH} (hf : zx_orders sc a0 a1 h = some (ro_, ho_)) : zq_wm sc d 132 [.ref a0, .int a1] h (some (.int ro_), ho_) := by
  unfold zx_orders at hf
  obtain ⟨d, rfl⟩ : ∃ d', d = d' + 1 := ⟨d - 1, by omega⟩
  have hd : 4 ≤ d := by omega
  show zq_wp sc (d + 1) 132 0 [some (.ref a0), some (.int a1), none] [] h _
  refine zq_wg 1 (pc' := 1) (lv' := [some (.ref a0), some (.int a1), none]) (st' := [.ref a0]) (h' := h) rfl ?_
  obtain ⟨e4, v2, h1, e3, hf⟩ := zo_v_s hf
  refine zr_cv zq_m133 [] [] rfl rfl rfl rfl rfl (Nat.le_of_ble_eq_true rfl) (Nat.le_of_ble_eq_true rfl) e4 (zx_rowsSeen_ok sc d (by omega) e3) ?_
  refine zq_wg 0 (pc' := 4) (lv' := [some (.ref a0), some (.int a1), none]) (st' := [.int v2]) (h' := h1) rfl ?_
  refine zq_wg 3 (pc' := 7) (lv' := [some (.ref a0), some (.int a1), some (.int v2)]) (st' := [.int (-1 : Int32), .int a1]) (h' := h1) rfl ?_
  refine zr_if (a1 = (-1 : Int32)) 10 12 (st' := []) rfl rfl (fun b5 => ?_) (fun b5 => ?_)
  · have hf := zo_t hf b5
    refine zq_wg 1 (pc' := 11) (lv' := [some (.ref a0), some (.int a1), some (.int v2)]) (st' := [.int v2]) (h' := h1) rfl ?_
    exact zr_ri rfl rfl rfl hf
  · have hf := zo_f hf b5
    refine zq_wg 1 (pc' := 13) (lv' := [some (.ref a0), some (.int a1), some (.int v2)]) (st' := [.int v2]) (h' := h1) rfl ?_
    refine zr_if (v2 ≤ 0) 44 16 (st' := []) rfl rfl (fun b6 => ?_) (fun b6 => ?_)
    · have hf := zo_t hf b6
      refine zq_wg 1 (pc' := 46) (lv' := [some (.ref a0), some (.int a1), some (.int v2)]) (st' := [.int (-2 : Int32)]) (h' := h1) rfl ?_
      exact zr_ri rfl rfl rfl hf
    · have hf := zo_f hf b6
      refine zq_wg 3 (pc' := 19) (lv' := [some (.ref a0), some (.int a1), some (.int v2)]) (st' := [.ref a0, .int (0 : Int32), .int a1]) (h' := h1) rfl ?_
      obtain ⟨v7, e8, hf⟩ := zo_b_s hf
      refine zr_gR rfl rfl (by decide) rfl e8 ?_
      obtain ⟨v9, e10, hf⟩ := zo_b_s hf
      refine zr_gI rfl rfl (by decide) rfl e10 ?_
      refine zq_wg 2 (pc' := 27) (lv' := [some (.ref a0), some (.int a1), some (.int v2)]) (st' := [.int (v9 - (1 : Int32)), .int (0 : Int32), .int a1]) (h' := h1) rfl ?_
      obtain ⟨v12, h11, e13, hf⟩ := zo_c_s hf
      refine zr_cs zq_m35 [.int a1, .int (0 : Int32), .int (v9 - (1 : Int32))] [] rfl rfl (by decide) rfl rfl rfl (Nat.le_of_ble_eq_true rfl) (Nat.le_of_ble_eq_true rfl) (zx_within_ok sc d (by omega) e13) ?_
      refine zq_wg 0 (pc' := 30) (lv' := [some (.ref a0), some (.int a1), some (.int v2)]) (st' := [.int v12]) (h' := h11) rfl ?_
      refine zr_if (v12 = 0) 44 33 (st' := []) rfl rfl (fun b14 => ?_) (fun b14 => ?_)
      · have hf := zo_t hf b14
        refine zq_wg 1 (pc' := 46) (lv' := [some (.ref a0), some (.int a1), some (.int v2)]) (st' := [.int (-2 : Int32)]) (h' := h11) rfl ?_
        exact zr_ri rfl rfl rfl hf
      · have hf := zo_f hf b14
        refine zq_wg 1 (pc' := 34) (lv' := [some (.ref a0), some (.int a1), some (.int v2)]) (st' := [.ref a0]) (h' := h11) rfl ?_
        obtain ⟨v15, e16, hf⟩ := zo_b_s hf
        refine zr_gR rfl rfl (by decide) rfl e16 ?_
        refine zq_wg 1 (pc' := 38) (lv' := [some (.ref a0), some (.int a1), some (.int v2)]) (st' := [.int a1, .ref v15]) (h' := h11) rfl ?_
        obtain ⟨v18, h17, e19, hf⟩ := zo_c_s hf
        refine zr_cs zq_m12 [.ref v15, .int a1] [] rfl rfl (by decide) rfl rfl rfl (Nat.le_of_ble_eq_true rfl) (Nat.le_of_ble_eq_true rfl) (zx_at_ok sc d (by omega) e19) ?_
        refine zq_wg 0 (pc' := 41) (lv' := [some (.ref a0), some (.int a1), some (.int v2)]) (st' := [.int v18]) (h' := h17) rfl ?_
        refine zq_wg 1 (pc' := 46) (lv' := [some (.ref a0), some (.int a1), some (.int v2)]) (st' := [.int v18]) (h' := h17) rfl ?_
        exact zr_ri rfl rfl rfl hf
set_option maxRecDepth 4000 in
def zx_fillDelays_l4 (sc : zX) : Nat → Nat → Int32 → Int32 → Int32 → zH → (Nat → Int32 → Int32 → zH → Option (Unit × zH)) → Option (Unit × zH)
  | 0, _, _, _, _, _, _ => none
  | n + 1, y1, y2, y3, y4, h5, k44 => if (3 : Int32) ≤ y4 then (k44 y1 y2 y3 h5) else (zo_l (fun (x7 : Nat) (x8 : Int32) (x9 : Int32) (x10 : Int32) (h11 : zH) => zx_fillDelays_l4 sc n x7 x8 x10 (x9 + (1 : Int32)) h11 k44) (fun j37_11 => zo_l (fun (x12 : Nat) (x13 : Int32) (x14 : Int32) (h15 : zH) => j37_11 x12 x13 x14 (1 : Int32) h15) (fun j32_15 => if y3 = 0 then (zo_b (zo_gR h5 9 y1 11) (fun v17 => zo_b (zo_gR h5 9 y1 11) (fun v19 => zo_b (zo_gI h5 0 v19 4) (fun v21 => zo_v h5 v17 0 (zx_Army_move sc v17 y2 v21 y4 h5) (fun v24 h23 => if v24 < 0 then (j37_11 y1 y2 y4 (0 : Int32) h23) else (j32_15 y1 y2 y4 h23)))))) else (j32_15 y1 y2 y4 h5))))
set_option maxRecDepth 4000 in
def zx_fillDelays_l72 (sc : zX) : Nat → Nat → Int32 → Int32 → Int32 → Int32 → Int32 → zH → (Nat → Int32 → Int32 → Int32 → Int32 → zH → Option (Unit × zH)) → Option (Unit × zH)
  | 0, _, _, _, _, _, _, _, _ => none
  | n + 1, y47, y48, y49, y50, y51, y52, h53, k133 => if (3 : Int32) ≤ y52 then (k133 y47 y48 y49 y50 y51 h53) else (if y49 = 0 then (zo_b (zo_gR h53 9 y47 11) (fun v56 => zo_b (zo_gR h53 9 y47 11) (fun v58 => zo_b (zo_gR h53 9 y47 11) (fun v60 => zo_b (zo_gI h53 0 v60 4) (fun v62 => zo_v h53 v58 0 (zx_Army_move sc v58 y48 v62 y52 h53) (fun v65 h64 => zo_v h64 v56 0 (zx_Army_after sc v56 y50 v65 h64) (fun v69 h68 => zo_b (zo_gR h68 9 y47 10) (fun v72 => zo_c (zx_at sc v72 v69 h68) (fun v75 h74 => zx_fillDelays_l72 sc n y47 y48 y49 y50 (if y51 < (v75 + (1 : Int32)) then (v75 + (1 : Int32)) else y51) (y52 + (1 : Int32)) h74 k133))))))))) else (k133 y47 y48 y49 y50 y51 h53))
set_option maxRecDepth 4000 in
def zx_fillDelays_l55 (sc : zX) : Nat → Nat → Int32 → Int32 → Int32 → zH → Option (Unit × zH)
  | 0, _, _, _, _, _ => none
  | n + 1, y37, y38, y39, y40, h41 => zo_b (zo_gR h41 9 y37 11) (fun v42 => zo_b (zo_gI h41 0 v42 2) (fun v44 => if v44 < y40 then (some ((), h41)) else (zx_fillDelays_l72 sc zo_F y37 y38 y39 y40 (0 : Int32) (0 : Int32) h41 (fun (x77 : Nat) (x78 : Int32) (x79 : Int32) (x80 : Int32) (x81 : Int32) (h82 : zH) => zo_b (zo_gR h82 9 x77 10) (fun v83 => zo_l (fun (x85 : Nat) (x86 : Int32) (x87 : Int32) (x88 : Int32) (x89 : Nat) (x90 : Int32) (x91 : Int32) (h92 : zH) => zo_c (zx_put sc x89 x90 x91 h92) (fun w94 h93 => zx_fillDelays_l55 sc n x85 x86 x87 (x88 + (1 : Int32)) h93 )) (fun j159_92 => zo_l (fun (x96 : Nat) (x97 : Int32) (x98 : Int32) (x99 : Int32) (x100 : Nat) (x101 : Int32) (h102 : zH) => j159_92 x96 x97 x98 x99 x100 x101 (-1 : Int32) h102) (fun j153_102 => if x79 = 0 then (zo_b (zo_gR h82 9 x77 11) (fun v104 => zo_b (zo_gI h82 0 v104 2) (fun v106 => if x80 = v106 then (j153_102 x77 x78 x79 x80 v83 x80 h82) else (j159_92 x77 x78 x79 x80 v83 x80 x81 h82)))) else (j153_102 x77 x78 x79 x80 v83 x80 h82))))))))
set_option maxRecDepth 4000 in
def zx_fillDelays (sc : zX) (a0 : Nat) (a1 : Int32) (h : zH) : Option (Unit × zH) := zx_fillDelays_l4 sc zo_F a0 a1 (0 : Int32) (0 : Int32) h (fun (x28 : Nat) (x29 : Int32) (x30 : Int32) (h31 : zH) => zo_b (zo_gR h31 9 x28 10) (fun v32 => zo_c (zx_put sc v32 (0 : Int32) (0 : Int32) h31) (fun w35 h34 => zx_fillDelays_l55 sc zo_F x28 x29 x30 (1 : Int32) h34 )))
set_option maxRecDepth 4000 in
theorem zx_fillDelays_l4_ok (sc : zX) (d : Nat) (hd : 2 ≤ d) : ∀ (n : Nat) (y1 : Nat) (y2 : Int32) (y3 : Int32) (y4 : Int32) (h5 : zH) (k44 : Nat → Int32 → Int32 → zH → Option (Unit × zH)) (ro_ : Unit) (ho_ : zH), (∀ (z0 : Nat) (z1 : Int32) (z2 : Int32) (hz : zH), k44 z0 z1 z2 hz = some (ro_, ho_) → zq_wp sc (d + 1) 135 44 [some (.ref z0), some (.int z1), some (.int z2), none, none, none, none] [] hz (none, ho_)) → zx_fillDelays_l4 sc n y1 y2 y3 y4 h5 k44 = some (ro_, ho_) → zq_wp sc (d + 1) 135 4 [some (.ref y1), some (.int y2), some (.int y3), some (.int y4), none, none, none] [] h5 (none, ho_) := by
  intro n
  induction n with
  | zero => intro y1 y2 y3 y4 h5 k44 ro_ ho_ hk44 hf; cases hf
  | succ n ih =>
    intro y1 y2 y3 y4 h5 k44 ro_ ho_ hk44 hf
    refine zq_wg 2 (pc' := 6) (lv' := [some (.ref y1), some (.int y2), some (.int y3), some (.int y4), none, none, none]) (st' := [.int (3 : Int32), .int y4]) (h' := h5) rfl ?_
    refine zr_if ((3 : Int32) ≤ y4) 44 9 (st' := []) rfl rfl (fun b6 => ?_) (fun b6 => ?_)
    · have hf := zo_t hf b6
      refine zq_fg [some (.ref y1), some (.int y2), some (.int y3), none, none, none, none] (zq_lvle_s (zq_lvle_s (zq_lvle_s (zq_lvle_n (zq_lvle_s (zq_lvle_s (zq_lvle_s zq_lvle_nil))))))) ?_
      exact hk44 y1 y2 y3 h5 hf
    · have hf := zo_f hf b6
      refine zq_wg 1 (pc' := 10) (lv' := [some (.ref y1), some (.int y2), some (.int y3), some (.int y4), none, none, none]) (st' := [.int y3]) (h' := h5) rfl ?_
      obtain ⟨j37_11, hjj37_11, hf⟩ := zo_lj hf
      have kj37_11 : ∀ (x7 : Nat) (x8 : Int32) (x9 : Int32) (x10 : Int32) (h11 : zH), j37_11 x7 x8 x9 x10 h11 = some (ro_, ho_) → zq_wp sc (d + 1) 135 37 [some (.ref x7), some (.int x8), none, some (.int x9), none, none, none] [.int x10] h11 (none, ho_) := by
        intro x7 x8 x9 x10 h11 hf
        rw [hjj37_11] at hf
        refine zq_wg 3 (pc' := 4) (lv' := [some (.ref x7), some (.int x8), some (.int x10), some (.int (x9 + (1 : Int32))), none, none, none]) (st' := []) (h' := h11) rfl ?_
        exact ih x7 x8 x10 (x9 + (1 : Int32)) h11 _ _ _ hk44 hf
      obtain ⟨j32_15, hjj32_15, hf⟩ := zo_lj hf
      have kj32_15 : ∀ (x12 : Nat) (x13 : Int32) (x14 : Int32) (h15 : zH), j32_15 x12 x13 x14 h15 = some (ro_, ho_) → zq_wp sc (d + 1) 135 32 [some (.ref x12), some (.int x13), none, some (.int x14), none, none, none] [] h15 (none, ho_) := by
        intro x12 x13 x14 h15 hf
        rw [hjj32_15] at hf
        refine zq_wg 2 (pc' := 37) (lv' := [some (.ref x12), some (.int x13), none, some (.int x14), none, none, none]) (st' := [.int (1 : Int32)]) (h' := h15) rfl ?_
        exact kj37_11 x12 x13 x14 (1 : Int32) h15 hf
      refine zr_if (y3 = 0) 13 32 (st' := []) rfl rfl (fun b16 => ?_) (fun b16 => ?_)
      · have hf := zo_t hf b16
        refine zq_wg 1 (pc' := 14) (lv' := [some (.ref y1), some (.int y2), some (.int y3), some (.int y4), none, none, none]) (st' := [.ref y1]) (h' := h5) rfl ?_
        obtain ⟨v17, e18, hf⟩ := zo_b_s hf
        refine zr_gR rfl rfl (by decide) rfl e18 ?_
        refine zq_wg 2 (pc' := 19) (lv' := [some (.ref y1), some (.int y2), some (.int y3), some (.int y4), none, none, none]) (st' := [.ref y1, .int y2, .ref v17]) (h' := h5) rfl ?_
        obtain ⟨v19, e20, hf⟩ := zo_b_s hf
        refine zr_gR rfl rfl (by decide) rfl e20 ?_
        obtain ⟨v21, e22, hf⟩ := zo_b_s hf
        refine zr_gI rfl rfl (by decide) rfl e22 ?_
        refine zq_wg 1 (pc' := 26) (lv' := [some (.ref y1), some (.int y2), some (.int y3), some (.int y4), none, none, none]) (st' := [.int y4, .int v21, .int y2, .ref v17]) (h' := h5) rfl ?_
        obtain ⟨e26, v24, h23, e25, hf⟩ := zo_v_s hf
        refine zr_cv zq_m90 [.int y2, .int v21, .int y4] [] rfl rfl rfl rfl rfl (Nat.le_of_ble_eq_true rfl) (Nat.le_of_ble_eq_true rfl) e26 (zx_Army_move_ok sc d (by omega) e25) ?_
        refine zq_wg 0 (pc' := 29) (lv' := [some (.ref y1), some (.int y2), some (.int y3), some (.int y4), none, none, none]) (st' := [.int v24]) (h' := h23) rfl ?_
        refine zr_if (v24 < 0) 36 32 (st' := []) rfl rfl (fun b27 => ?_) (fun b27 => ?_)
        · have hf := zo_t hf b27
          refine zq_wg 1 (pc' := 37) (lv' := [some (.ref y1), some (.int y2), some (.int y3), some (.int y4), none, none, none]) (st' := [.int (0 : Int32)]) (h' := h23) rfl ?_
          refine zq_fg [some (.ref y1), some (.int y2), none, some (.int y4), none, none, none] (zq_lvle_s (zq_lvle_s (zq_lvle_n (zq_lvle_s (zq_lvle_s (zq_lvle_s (zq_lvle_s zq_lvle_nil))))))) ?_
          exact kj37_11 y1 y2 y4 (0 : Int32) h23 hf
        · have hf := zo_f hf b27
          refine zq_fg [some (.ref y1), some (.int y2), none, some (.int y4), none, none, none] (zq_lvle_s (zq_lvle_s (zq_lvle_n (zq_lvle_s (zq_lvle_s (zq_lvle_s (zq_lvle_s zq_lvle_nil))))))) ?_
          exact kj32_15 y1 y2 y4 h23 hf
      · have hf := zo_f hf b16
        refine zq_fg [some (.ref y1), some (.int y2), none, some (.int y4), none, none, none] (zq_lvle_s (zq_lvle_s (zq_lvle_n (zq_lvle_s (zq_lvle_s (zq_lvle_s (zq_lvle_s zq_lvle_nil))))))) ?_
        exact kj32_15 y1 y2 y4 h5 hf
set_option maxRecDepth 4000 in
theorem zx_fillDelays_l72_ok (sc : zX) (d : Nat) (hd : 2 ≤ d) : ∀ (n : Nat) (y47 : Nat) (y48 : Int32) (y49 : Int32) (y50 : Int32) (y51 : Int32) (y52 : Int32) (h53 : zH) (k133 : Nat → Int32 → Int32 → Int32 → Int32 → zH → Option (Unit × zH)) (ro_ : Unit) (ho_ : zH), (∀ (z0 : Nat) (z1 : Int32) (z2 : Int32) (z3 : Int32) (z4 : Int32) (hz : zH), k133 z0 z1 z2 z3 z4 hz = some (ro_, ho_) → zq_wp sc (d + 1) 135 133 [some (.ref z0), some (.int z1), some (.int z2), some (.int z3), some (.int z4), none, none] [] hz (none, ho_)) → zx_fillDelays_l72 sc n y47 y48 y49 y50 y51 y52 h53 k133 = some (ro_, ho_) → zq_wp sc (d + 1) 135 72 [some (.ref y47), some (.int y48), some (.int y49), some (.int y50), some (.int y51), some (.int y52), none] [] h53 (none, ho_) := by
  intro n
  induction n with
  | zero => intro y47 y48 y49 y50 y51 y52 h53 k133 ro_ ho_ hk133 hf; cases hf
  | succ n ih =>
    intro y47 y48 y49 y50 y51 y52 h53 k133 ro_ ho_ hk133 hf
    refine zq_wg 2 (pc' := 75) (lv' := [some (.ref y47), some (.int y48), some (.int y49), some (.int y50), some (.int y51), some (.int y52), none]) (st' := [.int (3 : Int32), .int y52]) (h' := h53) rfl ?_
    refine zr_if ((3 : Int32) ≤ y52) 133 78 (st' := []) rfl rfl (fun b54 => ?_) (fun b54 => ?_)
    · have hf := zo_t hf b54
      refine zq_fg [some (.ref y47), some (.int y48), some (.int y49), some (.int y50), some (.int y51), none, none] (zq_lvle_s (zq_lvle_s (zq_lvle_s (zq_lvle_s (zq_lvle_s (zq_lvle_n (zq_lvle_s zq_lvle_nil))))))) ?_
      exact hk133 y47 y48 y49 y50 y51 h53 hf
    · have hf := zo_f hf b54
      refine zq_wg 1 (pc' := 79) (lv' := [some (.ref y47), some (.int y48), some (.int y49), some (.int y50), some (.int y51), some (.int y52), none]) (st' := [.int y49]) (h' := h53) rfl ?_
      refine zr_if (y49 = 0) 82 133 (st' := []) rfl rfl (fun b55 => ?_) (fun b55 => ?_)
      · have hf := zo_t hf b55
        refine zq_wg 1 (pc' := 83) (lv' := [some (.ref y47), some (.int y48), some (.int y49), some (.int y50), some (.int y51), some (.int y52), none]) (st' := [.ref y47]) (h' := h53) rfl ?_
        obtain ⟨v56, e57, hf⟩ := zo_b_s hf
        refine zr_gR rfl rfl (by decide) rfl e57 ?_
        refine zq_wg 2 (pc' := 88) (lv' := [some (.ref y47), some (.int y48), some (.int y49), some (.int y50), some (.int y51), some (.int y52), none]) (st' := [.ref y47, .int y50, .ref v56]) (h' := h53) rfl ?_
        obtain ⟨v58, e59, hf⟩ := zo_b_s hf
        refine zr_gR rfl rfl (by decide) rfl e59 ?_
        refine zq_wg 2 (pc' := 93) (lv' := [some (.ref y47), some (.int y48), some (.int y49), some (.int y50), some (.int y51), some (.int y52), none]) (st' := [.ref y47, .int y48, .ref v58, .int y50, .ref v56]) (h' := h53) rfl ?_
        obtain ⟨v60, e61, hf⟩ := zo_b_s hf
        refine zr_gR rfl rfl (by decide) rfl e61 ?_
        obtain ⟨v62, e63, hf⟩ := zo_b_s hf
        refine zr_gI rfl rfl (by decide) rfl e63 ?_
        refine zq_wg 1 (pc' := 101) (lv' := [some (.ref y47), some (.int y48), some (.int y49), some (.int y50), some (.int y51), some (.int y52), none]) (st' := [.int y52, .int v62, .int y48, .ref v58, .int y50, .ref v56]) (h' := h53) rfl ?_
        obtain ⟨e67, v65, h64, e66, hf⟩ := zo_v_s hf
        refine zr_cv zq_m90 [.int y48, .int v62, .int y52] [.int y50, .ref v56] rfl rfl rfl rfl rfl (Nat.le_of_ble_eq_true rfl) (Nat.le_of_ble_eq_true rfl) e67 (zx_Army_move_ok sc d (by omega) e66) ?_
        refine zq_wg 0 (pc' := 104) (lv' := [some (.ref y47), some (.int y48), some (.int y49), some (.int y50), some (.int y51), some (.int y52), none]) (st' := [.int v65, .int y50, .ref v56]) (h' := h64) rfl ?_
        obtain ⟨e71, v69, h68, e70, hf⟩ := zo_v_s hf
        refine zr_cv zq_m92 [.int y50, .int v65] [] rfl rfl rfl rfl rfl (Nat.le_of_ble_eq_true rfl) (Nat.le_of_ble_eq_true rfl) e71 (zx_Army_after_ok sc d (by omega) e70) ?_
        refine zq_wg 0 (pc' := 107) (lv' := [some (.ref y47), some (.int y48), some (.int y49), some (.int y50), some (.int y51), some (.int y52), none]) (st' := [.int v69]) (h' := h68) rfl ?_
        refine zq_wg 3 (pc' := 112) (lv' := [some (.ref y47), some (.int y48), some (.int y49), some (.int y50), some (.int y51), some (.int y52), some (.int v69)]) (st' := [.ref y47, .int y51]) (h' := h68) rfl ?_
        obtain ⟨v72, e73, hf⟩ := zo_b_s hf
        refine zr_gR rfl rfl (by decide) rfl e73 ?_
        refine zq_wg 1 (pc' := 117) (lv' := [some (.ref y47), some (.int y48), some (.int y49), some (.int y50), some (.int y51), some (.int y52), some (.int v69)]) (st' := [.int v69, .ref v72, .int y51]) (h' := h68) rfl ?_
        obtain ⟨v75, h74, e76, hf⟩ := zo_c_s hf
        refine zr_cs zq_m12 [.ref v72, .int v69] [.int y51] rfl rfl (by decide) rfl rfl rfl (Nat.le_of_ble_eq_true rfl) (Nat.le_of_ble_eq_true rfl) (zx_at_ok sc d (by omega) e76) ?_
        refine zq_wg 0 (pc' := 120) (lv' := [some (.ref y47), some (.int y48), some (.int y49), some (.int y50), some (.int y51), some (.int y52), some (.int v69)]) (st' := [.int v75, .int y51]) (h' := h74) rfl ?_
        refine zq_wg 2 (pc' := 122) (lv' := [some (.ref y47), some (.int y48), some (.int y49), some (.int y50), some (.int y51), some (.int y52), some (.int v69)]) (st' := [.int (v75 + (1 : Int32)), .int y51]) (h' := h74) rfl ?_
        refine zr_max rfl rfl (Nat.le_of_ble_eq_true rfl) ?_
        refine zq_wg 3 (pc' := 72) (lv' := [some (.ref y47), some (.int y48), some (.int y49), some (.int y50), some (.int (if y51 < (v75 + (1 : Int32)) then (v75 + (1 : Int32)) else y51)), some (.int (y52 + (1 : Int32))), some (.int v69)]) (st' := []) (h' := h74) rfl ?_
        refine zq_fg [some (.ref y47), some (.int y48), some (.int y49), some (.int y50), some (.int (if y51 < (v75 + (1 : Int32)) then (v75 + (1 : Int32)) else y51)), some (.int (y52 + (1 : Int32))), none] (zq_lvle_s (zq_lvle_s (zq_lvle_s (zq_lvle_s (zq_lvle_s (zq_lvle_s (zq_lvle_n zq_lvle_nil))))))) ?_
        exact ih y47 y48 y49 y50 (if y51 < (v75 + (1 : Int32)) then (v75 + (1 : Int32)) else y51) (y52 + (1 : Int32)) h74 _ _ _ hk133 hf
      · have hf := zo_f hf b55
        refine zq_fg [some (.ref y47), some (.int y48), some (.int y49), some (.int y50), some (.int y51), none, none] (zq_lvle_s (zq_lvle_s (zq_lvle_s (zq_lvle_s (zq_lvle_s (zq_lvle_n (zq_lvle_s zq_lvle_nil))))))) ?_
        exact hk133 y47 y48 y49 y50 y51 h53 hf
set_option maxRecDepth 4000 in
theorem zx_fillDelays_l55_ok (sc : zX) (d : Nat) (hd : 2 ≤ d) : ∀ (n : Nat) (y37 : Nat) (y38 : Int32) (y39 : Int32) (y40 : Int32) (h41 : zH) (ro_ : Unit) (ho_ : zH),  zx_fillDelays_l55 sc n y37 y38 y39 y40 h41  = some (ro_, ho_) → zq_wp sc (d + 1) 135 55 [some (.ref y37), some (.int y38), some (.int y39), some (.int y40), none, none, none] [] h41 (none, ho_) := by
  intro n
  induction n with
  | zero => intro y37 y38 y39 y40 h41 ro_ ho_ hf; cases hf
  | succ n ih =>
    intro y37 y38 y39 y40 h41 ro_ ho_ hf
    refine zq_wg 2 (pc' := 57) (lv' := [some (.ref y37), some (.int y38), some (.int y39), some (.int y40), none, none, none]) (st' := [.ref y37, .int y40]) (h' := h41) rfl ?_
    obtain ⟨v42, e43, hf⟩ := zo_b_s hf
    refine zr_gR rfl rfl (by decide) rfl e43 ?_
    obtain ⟨v44, e45, hf⟩ := zo_b_s hf
    refine zr_gI rfl rfl (by decide) rfl e45 ?_
    refine zr_if (v44 < y40) 168 66 (st' := []) rfl rfl (fun b46 => ?_) (fun b46 => ?_)
    · have hf := zo_t hf b46
      exact zr_rv rfl rfl hf
    · have hf := zo_f hf b46
      refine zq_wg 4 (pc' := 72) (lv' := [some (.ref y37), some (.int y38), some (.int y39), some (.int y40), some (.int (0 : Int32)), some (.int (0 : Int32)), none]) (st' := []) (h' := h41) rfl ?_
      refine zx_fillDelays_l72_ok sc d hd zo_F y37 y38 y39 y40 (0 : Int32) (0 : Int32) h41 _ _ _ ?_ hf
      · intro x77 x78 x79 x80 x81 h82 hf
        refine zq_wg 1 (pc' := 134) (lv' := [some (.ref x77), some (.int x78), some (.int x79), some (.int x80), some (.int x81), none, none]) (st' := [.ref x77]) (h' := h82) rfl ?_
        obtain ⟨v83, e84, hf⟩ := zo_b_s hf
        refine zr_gR rfl rfl (by decide) rfl e84 ?_
        refine zq_wg 2 (pc' := 139) (lv' := [some (.ref x77), some (.int x78), some (.int x79), some (.int x80), some (.int x81), none, none]) (st' := [.int x79, .int x80, .ref v83]) (h' := h82) rfl ?_
        obtain ⟨j159_92, hjj159_92, hf⟩ := zo_lj hf
        have kj159_92 : ∀ (x85 : Nat) (x86 : Int32) (x87 : Int32) (x88 : Int32) (x89 : Nat) (x90 : Int32) (x91 : Int32) (h92 : zH), j159_92 x85 x86 x87 x88 x89 x90 x91 h92 = some (ro_, ho_) → zq_wp sc (d + 1) 135 159 [some (.ref x85), some (.int x86), some (.int x87), some (.int x88), none, none, none] [.int x91, .int x90, .ref x89] h92 (none, ho_) := by
          intro x85 x86 x87 x88 x89 x90 x91 h92 hf
          rw [hjj159_92] at hf
          obtain ⟨w94, h93, e95, hf⟩ := zo_c_s hf
          refine zr_cs zq_m11 [.ref x89, .int x90, .int x91] [] rfl rfl (by decide) rfl rfl rfl (Nat.le_of_ble_eq_true rfl) (Nat.le_of_ble_eq_true rfl) (zx_put_ok sc d (by omega) e95) ?_
          refine zq_wg 0 (pc' := 162) (lv' := [some (.ref x85), some (.int x86), some (.int x87), some (.int x88), none, none, none]) (st' := []) (h' := h93) rfl ?_
          refine zq_wg 2 (pc' := 55) (lv' := [some (.ref x85), some (.int x86), some (.int x87), some (.int (x88 + (1 : Int32))), none, none, none]) (st' := []) (h' := h93) rfl ?_
          exact ih x85 x86 x87 (x88 + (1 : Int32)) h93 _ _ hf
        obtain ⟨j153_102, hjj153_102, hf⟩ := zo_lj hf
        have kj153_102 : ∀ (x96 : Nat) (x97 : Int32) (x98 : Int32) (x99 : Int32) (x100 : Nat) (x101 : Int32) (h102 : zH), j153_102 x96 x97 x98 x99 x100 x101 h102 = some (ro_, ho_) → zq_wp sc (d + 1) 135 153 [some (.ref x96), some (.int x97), some (.int x98), some (.int x99), none, none, none] [.int x101, .ref x100] h102 (none, ho_) := by
          intro x96 x97 x98 x99 x100 x101 h102 hf
          rw [hjj153_102] at hf
          refine zq_wg 2 (pc' := 159) (lv' := [some (.ref x96), some (.int x97), some (.int x98), some (.int x99), none, none, none]) (st' := [.int (-1 : Int32), .int x101, .ref x100]) (h' := h102) rfl ?_
          exact kj159_92 x96 x97 x98 x99 x100 x101 (-1 : Int32) h102 hf
        refine zr_if (x79 = 0) 142 153 (st' := [.int x80, .ref v83]) rfl rfl (fun b103 => ?_) (fun b103 => ?_)
        · have hf := zo_t hf b103
          refine zq_wg 2 (pc' := 144) (lv' := [some (.ref x77), some (.int x78), some (.int x79), some (.int x80), some (.int x81), none, none]) (st' := [.ref x77, .int x80, .int x80, .ref v83]) (h' := h82) rfl ?_
          obtain ⟨v104, e105, hf⟩ := zo_b_s hf
          refine zr_gR rfl rfl (by decide) rfl e105 ?_
          obtain ⟨v106, e107, hf⟩ := zo_b_s hf
          refine zr_gI rfl rfl (by decide) rfl e107 ?_
          refine zr_if (x80 = v106) 153 157 (st' := [.int x80, .ref v83]) rfl rfl (fun b108 => ?_) (fun b108 => ?_)
          · have hf := zo_t hf b108
            refine zq_fg [some (.ref x77), some (.int x78), some (.int x79), some (.int x80), none, none, none] (zq_lvle_s (zq_lvle_s (zq_lvle_s (zq_lvle_s (zq_lvle_n (zq_lvle_s (zq_lvle_s zq_lvle_nil))))))) ?_
            exact kj153_102 x77 x78 x79 x80 v83 x80 h82 hf
          · have hf := zo_f hf b108
            refine zq_wg 1 (pc' := 159) (lv' := [some (.ref x77), some (.int x78), some (.int x79), some (.int x80), some (.int x81), none, none]) (st' := [.int x81, .int x80, .ref v83]) (h' := h82) rfl ?_
            refine zq_fg [some (.ref x77), some (.int x78), some (.int x79), some (.int x80), none, none, none] (zq_lvle_s (zq_lvle_s (zq_lvle_s (zq_lvle_s (zq_lvle_n (zq_lvle_s (zq_lvle_s zq_lvle_nil))))))) ?_
            exact kj159_92 x77 x78 x79 x80 v83 x80 x81 h82 hf
        · have hf := zo_f hf b103
          refine zq_fg [some (.ref x77), some (.int x78), some (.int x79), some (.int x80), none, none, none] (zq_lvle_s (zq_lvle_s (zq_lvle_s (zq_lvle_s (zq_lvle_n (zq_lvle_s (zq_lvle_s zq_lvle_nil))))))) ?_
          exact kj153_102 x77 x78 x79 x80 v83 x80 h82 hf
set_option maxRecDepth 4000 in
theorem zx_fillDelays_ok (sc : zX) (d : Nat) (hd : 3 ≤ d) {a0 : Nat} {a1 : Int32} {h : zH} {ro_ : Unit} {ho_ : zH} (hf : zx_fillDelays sc a0 a1 h = some (ro_, ho_)) : zq_wm sc d 135 [.ref a0, .int a1] h (none, ho_) := by
  unfold zx_fillDelays at hf
  obtain ⟨d, rfl⟩ : ∃ d', d = d' + 1 := ⟨d - 1, by omega⟩
  have hd : 2 ≤ d := by omega
  show zq_wp sc (d + 1) 135 0 [some (.ref a0), some (.int a1), none, none, none, none, none] [] h _
  refine zq_wg 4 (pc' := 4) (lv' := [some (.ref a0), some (.int a1), some (.int (0 : Int32)), some (.int (0 : Int32)), none, none, none]) (st' := []) (h' := h) rfl ?_
  refine zx_fillDelays_l4_ok sc d hd zo_F a0 a1 (0 : Int32) (0 : Int32) h _ _ _ ?_ hf
  · intro x28 x29 x30 h31 hf
    refine zq_wg 1 (pc' := 45) (lv' := [some (.ref x28), some (.int x29), some (.int x30), none, none, none, none]) (st' := [.ref x28]) (h' := h31) rfl ?_
    obtain ⟨v32, e33, hf⟩ := zo_b_s hf
    refine zr_gR rfl rfl (by decide) rfl e33 ?_
    refine zq_wg 2 (pc' := 50) (lv' := [some (.ref x28), some (.int x29), some (.int x30), none, none, none, none]) (st' := [.int (0 : Int32), .int (0 : Int32), .ref v32]) (h' := h31) rfl ?_
    obtain ⟨w35, h34, e36, hf⟩ := zo_c_s hf
    refine zr_cs zq_m11 [.ref v32, .int (0 : Int32), .int (0 : Int32)] [] rfl rfl (by decide) rfl rfl rfl (Nat.le_of_ble_eq_true rfl) (Nat.le_of_ble_eq_true rfl) (zx_put_ok sc d (by omega) e36) ?_
    refine zq_wg 0 (pc' := 53) (lv' := [some (.ref x28), some (.int x29), some (.int x30), none, none, none, none]) (st' := []) (h' := h34) rfl ?_
    refine zq_wg 2 (pc' := 55) (lv' := [some (.ref x28), some (.int x29), some (.int x30), some (.int (1 : Int32)), none, none, none]) (st' := []) (h' := h34) rfl ?_
    refine zx_fillDelays_l55_ok sc d hd zo_F x28 x29 x30 (1 : Int32) h34 _ _ hf
set_option maxRecDepth 4000 in
def zx_firstDelaying_l17 (sc : zX) : Nat → Nat → Int32 → Int32 → Int32 → zH → (Int32 → zH → Option (Int32 × zH)) → Option (Int32 × zH)
  | 0, _, _, _, _, _, _ => none
  | n + 1, y10, y11, y12, y13, h14, k72 => if (3 : Int32) ≤ y13 then (some ((-1 : Int32), h14)) else (zo_b (zo_gR h14 9 y10 10) (fun v16 => zo_b (zo_gR h14 9 y10 11) (fun v18 => zo_b (zo_gR h14 9 y10 1) (fun v20 => zo_b (zo_gI h14 4 v20 3) (fun v22 => zo_b (zo_gR h14 9 y10 11) (fun v24 => zo_b (zo_gR h14 9 y10 11) (fun v26 => zo_b (zo_gI h14 0 v26 4) (fun v28 => zo_v h14 v24 0 (zx_Army_move sc v24 y11 v28 y13 h14) (fun v31 h30 => zo_v h30 v18 0 (zx_Army_after sc v18 v22 v31 h30) (fun v35 h34 => zo_c (zx_at sc v16 v35 h34) (fun v39 h38 => zo_l (fun (x41 : Nat) (x42 : Int32) (x43 : Int32) (x44 : Int32) (h45 : zH) => zx_firstDelaying_l17 sc n x41 x42 x43 (x44 + (1 : Int32)) h45 k72) (fun j85_45 => if y12 = (-1 : Int32) then (if v39 = (-1 : Int32) then (k72 y13 h38) else (j85_45 y10 y11 y12 y13 h38)) else (if (v39 + (1 : Int32)) = y12 then (some (y13, h38)) else (j85_45 y10 y11 y12 y13 h38))))))))))))))
set_option maxRecDepth 4000 in
def zx_firstDelaying (sc : zX) (a0 : Nat) (a1 : Int32) (h : zH) : Option (Int32 × zH) := zo_b (zo_gR h 9 a0 10) (fun v1 => zo_b (zo_gR h 9 a0 1) (fun v3 => zo_b (zo_gI h 4 v3 3) (fun v5 => zo_c (zx_at sc v1 v5 h) (fun v8 h7 => zx_firstDelaying_l17 sc zo_F a0 a1 v8 (0 : Int32) h7 (fun (x49 : Int32) (h50 : zH) => some (x49, h50))))))
set_option maxRecDepth 4000 in
theorem zx_firstDelaying_l17_ok (sc : zX) (d : Nat) (hd : 2 ≤ d) : ∀ (n : Nat) (y10 : Nat) (y11 : Int32) (y12 : Int32) (y13 : Int32) (h14 : zH) (k72 : Int32 → zH → Option (Int32 × zH)) (ro_ : Int32) (ho_ : zH), (∀ (z0 : Int32) (hz : zH), k72 z0 hz = some (ro_, ho_) → zq_wp sc (d + 1) 136 72 [none, none, none, some (.int z0), none] [] hz (some (.int ro_), ho_)) → zx_firstDelaying_l17 sc n y10 y11 y12 y13 h14 k72 = some (ro_, ho_) → zq_wp sc (d + 1) 136 17 [some (.ref y10), some (.int y11), some (.int y12), some (.int y13), none] [] h14 (some (.int ro_), ho_) := by
  intro n
  induction n with
  | zero => intro y10 y11 y12 y13 h14 k72 ro_ ho_ hk72 hf; cases hf
  | succ n ih =>
    intro y10 y11 y12 y13 h14 k72 ro_ ho_ hk72 hf
    refine zq_wg 2 (pc' := 19) (lv' := [some (.ref y10), some (.int y11), some (.int y12), some (.int y13), none]) (st' := [.int (3 : Int32), .int y13]) (h' := h14) rfl ?_
    refine zr_if ((3 : Int32) ≤ y13) 91 22 (st' := []) rfl rfl (fun b15 => ?_) (fun b15 => ?_)
    · have hf := zo_t hf b15
      refine zq_wg 1 (pc' := 92) (lv' := [some (.ref y10), some (.int y11), some (.int y12), some (.int y13), none]) (st' := [.int (-1 : Int32)]) (h' := h14) rfl ?_
      exact zr_ri rfl rfl rfl hf
    · have hf := zo_f hf b15
      refine zq_wg 1 (pc' := 23) (lv' := [some (.ref y10), some (.int y11), some (.int y12), some (.int y13), none]) (st' := [.ref y10]) (h' := h14) rfl ?_
      obtain ⟨v16, e17, hf⟩ := zo_b_s hf
      refine zr_gR rfl rfl (by decide) rfl e17 ?_
      refine zq_wg 1 (pc' := 27) (lv' := [some (.ref y10), some (.int y11), some (.int y12), some (.int y13), none]) (st' := [.ref y10, .ref v16]) (h' := h14) rfl ?_
      obtain ⟨v18, e19, hf⟩ := zo_b_s hf
      refine zr_gR rfl rfl (by decide) rfl e19 ?_
      refine zq_wg 1 (pc' := 31) (lv' := [some (.ref y10), some (.int y11), some (.int y12), some (.int y13), none]) (st' := [.ref y10, .ref v18, .ref v16]) (h' := h14) rfl ?_
      obtain ⟨v20, e21, hf⟩ := zo_b_s hf
      refine zr_gR rfl rfl (by decide) rfl e21 ?_
      obtain ⟨v22, e23, hf⟩ := zo_b_s hf
      refine zr_gI rfl rfl (by decide) rfl e23 ?_
      refine zq_wg 1 (pc' := 38) (lv' := [some (.ref y10), some (.int y11), some (.int y12), some (.int y13), none]) (st' := [.ref y10, .int v22, .ref v18, .ref v16]) (h' := h14) rfl ?_
      obtain ⟨v24, e25, hf⟩ := zo_b_s hf
      refine zr_gR rfl rfl (by decide) rfl e25 ?_
      refine zq_wg 2 (pc' := 43) (lv' := [some (.ref y10), some (.int y11), some (.int y12), some (.int y13), none]) (st' := [.ref y10, .int y11, .ref v24, .int v22, .ref v18, .ref v16]) (h' := h14) rfl ?_
      obtain ⟨v26, e27, hf⟩ := zo_b_s hf
      refine zr_gR rfl rfl (by decide) rfl e27 ?_
      obtain ⟨v28, e29, hf⟩ := zo_b_s hf
      refine zr_gI rfl rfl (by decide) rfl e29 ?_
      refine zq_wg 1 (pc' := 50) (lv' := [some (.ref y10), some (.int y11), some (.int y12), some (.int y13), none]) (st' := [.int y13, .int v28, .int y11, .ref v24, .int v22, .ref v18, .ref v16]) (h' := h14) rfl ?_
      obtain ⟨e33, v31, h30, e32, hf⟩ := zo_v_s hf
      refine zr_cv zq_m90 [.int y11, .int v28, .int y13] [.int v22, .ref v18, .ref v16] rfl rfl rfl rfl rfl (Nat.le_of_ble_eq_true rfl) (Nat.le_of_ble_eq_true rfl) e33 (zx_Army_move_ok sc d (by omega) e32) ?_
      refine zq_wg 0 (pc' := 53) (lv' := [some (.ref y10), some (.int y11), some (.int y12), some (.int y13), none]) (st' := [.int v31, .int v22, .ref v18, .ref v16]) (h' := h30) rfl ?_
      obtain ⟨e37, v35, h34, e36, hf⟩ := zo_v_s hf
      refine zr_cv zq_m92 [.int v22, .int v31] [.ref v16] rfl rfl rfl rfl rfl (Nat.le_of_ble_eq_true rfl) (Nat.le_of_ble_eq_true rfl) e37 (zx_Army_after_ok sc d (by omega) e36) ?_
      refine zq_wg 0 (pc' := 56) (lv' := [some (.ref y10), some (.int y11), some (.int y12), some (.int y13), none]) (st' := [.int v35, .ref v16]) (h' := h34) rfl ?_
      obtain ⟨v39, h38, e40, hf⟩ := zo_c_s hf
      refine zr_cs zq_m12 [.ref v16, .int v35] [] rfl rfl (by decide) rfl rfl rfl (Nat.le_of_ble_eq_true rfl) (Nat.le_of_ble_eq_true rfl) (zx_at_ok sc d (by omega) e40) ?_
      refine zq_wg 0 (pc' := 59) (lv' := [some (.ref y10), some (.int y11), some (.int y12), some (.int y13), none]) (st' := [.int v39]) (h' := h38) rfl ?_
      refine zq_wg 3 (pc' := 63) (lv' := [some (.ref y10), some (.int y11), some (.int y12), some (.int y13), some (.int v39)]) (st' := [.int (-1 : Int32), .int y12]) (h' := h38) rfl ?_
      obtain ⟨j85_45, hjj85_45, hf⟩ := zo_lj hf
      have kj85_45 : ∀ (x41 : Nat) (x42 : Int32) (x43 : Int32) (x44 : Int32) (h45 : zH), j85_45 x41 x42 x43 x44 h45 = some (ro_, ho_) → zq_wp sc (d + 1) 136 85 [some (.ref x41), some (.int x42), some (.int x43), some (.int x44), none] [] h45 (some (.int ro_), ho_) := by
        intro x41 x42 x43 x44 h45 hf
        rw [hjj85_45] at hf
        refine zq_wg 2 (pc' := 17) (lv' := [some (.ref x41), some (.int x42), some (.int x43), some (.int (x44 + (1 : Int32))), none]) (st' := []) (h' := h45) rfl ?_
        exact ih x41 x42 x43 (x44 + (1 : Int32)) h45 _ _ _ hk72 hf
      refine zr_if (y12 = (-1 : Int32)) 66 75 (st' := []) rfl rfl (fun b46 => ?_) (fun b46 => ?_)
      · have hf := zo_t hf b46
        refine zq_wg 2 (pc' := 69) (lv' := [some (.ref y10), some (.int y11), some (.int y12), some (.int y13), some (.int v39)]) (st' := [.int (-1 : Int32), .int v39]) (h' := h38) rfl ?_
        refine zr_if (v39 = (-1 : Int32)) 72 85 (st' := []) rfl rfl (fun b47 => ?_) (fun b47 => ?_)
        · have hf := zo_t hf b47
          refine zq_fg [none, none, none, some (.int y13), none] (zq_lvle_n (zq_lvle_n (zq_lvle_n (zq_lvle_s (zq_lvle_n zq_lvle_nil))))) ?_
          exact hk72 y13 h38 hf
        · have hf := zo_f hf b47
          refine zq_fg [some (.ref y10), some (.int y11), some (.int y12), some (.int y13), none] (zq_lvle_s (zq_lvle_s (zq_lvle_s (zq_lvle_s (zq_lvle_n zq_lvle_nil))))) ?_
          exact kj85_45 y10 y11 y12 y13 h38 hf
      · have hf := zo_f hf b46
        refine zq_wg 4 (pc' := 80) (lv' := [some (.ref y10), some (.int y11), some (.int y12), some (.int y13), some (.int v39)]) (st' := [.int y12, .int (v39 + (1 : Int32))]) (h' := h38) rfl ?_
        refine zr_if ((v39 + (1 : Int32)) = y12) 83 85 (st' := []) rfl rfl (fun b48 => ?_) (fun b48 => ?_)
        · have hf := zo_t hf b48
          refine zq_wg 1 (pc' := 84) (lv' := [some (.ref y10), some (.int y11), some (.int y12), some (.int y13), some (.int v39)]) (st' := [.int y13]) (h' := h38) rfl ?_
          exact zr_ri rfl rfl rfl hf
        · have hf := zo_f hf b48
          refine zq_fg [some (.ref y10), some (.int y11), some (.int y12), some (.int y13), none] (zq_lvle_s (zq_lvle_s (zq_lvle_s (zq_lvle_s (zq_lvle_n zq_lvle_nil))))) ?_
          exact kj85_45 y10 y11 y12 y13 h38 hf
set_option maxRecDepth 4000 in
theorem zx_firstDelaying_ok (sc : zX) (d : Nat) (hd : 3 ≤ d) {a0 : Nat} {a1 : Int32} {h : zH} {ro_ : Int32} {ho_ : zH} (hf : zx_firstDelaying sc a0 a1 h = some (ro_, ho_)) : zq_wm sc d 136 [.ref a0, .int a1] h (some (.int ro_), ho_) := by
  unfold zx_firstDelaying at hf
  obtain ⟨d, rfl⟩ : ∃ d', d = d' + 1 := ⟨d - 1, by omega⟩
  have hd : 2 ≤ d := by omega
  show zq_wp sc (d + 1) 136 0 [some (.ref a0), some (.int a1), none, none, none] [] h _
  refine zq_wg 1 (pc' := 1) (lv' := [some (.ref a0), some (.int a1), none, none, none]) (st' := [.ref a0]) (h' := h) rfl ?_
  obtain ⟨v1, e2, hf⟩ := zo_b_s hf
  refine zr_gR rfl rfl (by decide) rfl e2 ?_
  refine zq_wg 1 (pc' := 5) (lv' := [some (.ref a0), some (.int a1), none, none, none]) (st' := [.ref a0, .ref v1]) (h' := h) rfl ?_
  obtain ⟨v3, e4, hf⟩ := zo_b_s hf
  refine zr_gR rfl rfl (by decide) rfl e4 ?_
  obtain ⟨v5, e6, hf⟩ := zo_b_s hf
  refine zr_gI rfl rfl (by decide) rfl e6 ?_
  obtain ⟨v8, h7, e9, hf⟩ := zo_c_s hf
  refine zr_cs zq_m12 [.ref v1, .int v5] [] rfl rfl (by decide) rfl rfl rfl (Nat.le_of_ble_eq_true rfl) (Nat.le_of_ble_eq_true rfl) (zx_at_ok sc d (by omega) e9) ?_
  refine zq_wg 0 (pc' := 14) (lv' := [some (.ref a0), some (.int a1), none, none, none]) (st' := [.int v8]) (h' := h7) rfl ?_
  refine zq_wg 3 (pc' := 17) (lv' := [some (.ref a0), some (.int a1), some (.int v8), some (.int (0 : Int32)), none]) (st' := []) (h' := h7) rfl ?_
  refine zx_firstDelaying_l17_ok sc d hd zo_F a0 a1 v8 (0 : Int32) h7 _ _ _ ?_ hf
  · intro x49 h50 hf
    refine zq_wg 2 (pc' := 84) (lv' := [none, none, none, some (.int x49), none]) (st' := [.int x49]) (h' := h50) rfl ?_
    exact zr_ri rfl rfl rfl hf
set_option maxRecDepth 4000 in
def zx_putOff (sc : zX) (a0 : Nat) (a1 : Int32) (h : zH) : Option (Int32 × zH) := zo_c (zx_within sc a1 (0 : Int32) (1 : Int32) h) (fun v2 h1 => if v2 = 0 then (some ((-2 : Int32), h1)) else (zo_b (zo_gR h1 9 a0 1) (fun v5 => zo_b (zo_gI h1 4 v5 3) (fun v7 => zo_l (fun (x9 : Nat) (x10 : Int32) (x11 : Int32) (h12 : zH) => if x11 = 0 then (zo_b (zo_gR h12 9 x9 11) (fun v14 => zo_b (zo_gR h12 9 x9 1) (fun v16 => zo_b (zo_gR h12 4 v16 0) (fun v18 => zo_v h12 v14 0 (zx_Army_strength sc v14 v18 h12) (fun v21 h20 => zo_v h20 x9 9 (zx_fillDelays sc x9 v21 h20) (fun w25 h24 => if x10 = 0 then (zo_b (zo_gR h24 9 x9 10) (fun v29 => zo_b (zo_gR h24 9 x9 1) (fun v31 => zo_b (zo_gI h24 4 v31 3) (fun v33 => zo_c (zx_at sc v29 v33 h24) (fun v36 h35 => some (v36, h35)))))) else (zo_v h24 x9 9 (zx_firstDelaying sc x9 v21 h24) (fun v39 h38 => some (v39, h38))))))))) else (if x10 = 0 then (zo_b (zo_gR h12 9 x9 1) (fun v43 => zo_b (zo_gI h12 4 v43 3) (fun v45 => if 0 < v45 then (some ((-1 : Int32), h12)) else (some ((0 : Int32), h12))))) else (some ((-1 : Int32), h12)))) (fun j44_12 => zo_l (fun (x48 : Nat) (x49 : Int32) (h50 : zH) => j44_12 x48 x49 (1 : Int32) h50) (fun j39_50 => if v7 ≤ 0 then (j39_50 a0 a1 h1) else (zo_b (zo_gR h1 9 a0 1) (fun v52 => zo_b (zo_gI h1 4 v52 3) (fun v54 => zo_b (zo_gR h1 9 a0 11) (fun v56 => zo_b (zo_gI h1 0 v56 2) (fun v58 => if v54 < v58 then (j44_12 a0 a1 (0 : Int32) h1) else (j39_50 a0 a1 h1))))))))))))
set_option maxRecDepth 4000 in
theorem zx_putOff_ok (sc : zX) (d : Nat) (hd : 4 ≤ d) {a0 : Nat} {a1 : Int32} {h : zH} {ro_ : Int32} {ho_ : zH} (hf : zx_putOff sc a0 a1 h = some (ro_, ho_)) : zq_wm sc d 134 [.ref a0, .int a1] h (some (.int ro_), ho_) := by
  unfold zx_putOff at hf
  obtain ⟨d, rfl⟩ : ∃ d', d = d' + 1 := ⟨d - 1, by omega⟩
  have hd : 3 ≤ d := by omega
  show zq_wp sc (d + 1) 134 0 [some (.ref a0), some (.int a1), none, none] [] h _
  refine zq_wg 3 (pc' := 3) (lv' := [some (.ref a0), some (.int a1), none, none]) (st' := [.int (1 : Int32), .int (0 : Int32), .int a1]) (h' := h) rfl ?_
  obtain ⟨v2, h1, e3, hf⟩ := zo_c_s hf
  refine zr_cs zq_m35 [.int a1, .int (0 : Int32), .int (1 : Int32)] [] rfl rfl (by decide) rfl rfl rfl (Nat.le_of_ble_eq_true rfl) (Nat.le_of_ble_eq_true rfl) (zx_within_ok sc d (by omega) e3) ?_
  refine zq_wg 0 (pc' := 6) (lv' := [some (.ref a0), some (.int a1), none, none]) (st' := [.int v2]) (h' := h1) rfl ?_
  refine zr_if (v2 = 0) 9 12 (st' := []) rfl rfl (fun b4 => ?_) (fun b4 => ?_)
  · have hf := zo_t hf b4
    refine zq_wg 1 (pc' := 11) (lv' := [some (.ref a0), some (.int a1), none, none]) (st' := [.int (-2 : Int32)]) (h' := h1) rfl ?_
    exact zr_ri rfl rfl rfl hf
  · have hf := zo_f hf b4
    refine zq_wg 1 (pc' := 13) (lv' := [some (.ref a0), some (.int a1), none, none]) (st' := [.ref a0]) (h' := h1) rfl ?_
    obtain ⟨v5, e6, hf⟩ := zo_b_s hf
    refine zr_gR rfl rfl (by decide) rfl e6 ?_
    obtain ⟨v7, e8, hf⟩ := zo_b_s hf
    refine zr_gI rfl rfl (by decide) rfl e8 ?_
    obtain ⟨j44_12, hjj44_12, hf⟩ := zo_lj hf
    have kj44_12 : ∀ (x9 : Nat) (x10 : Int32) (x11 : Int32) (h12 : zH), j44_12 x9 x10 x11 h12 = some (ro_, ho_) → zq_wp sc (d + 1) 134 44 [some (.ref x9), some (.int x10), none, none] [.int x11] h12 (some (.int ro_), ho_) := by
      intro x9 x10 x11 h12 hf
      rw [hjj44_12] at hf
      refine zq_wg 2 (pc' := 46) (lv' := [some (.ref x9), some (.int x10), some (.int x11), none]) (st' := [.int x11]) (h' := h12) rfl ?_
      refine zr_if (x11 = 0) 69 49 (st' := []) rfl rfl (fun b13 => ?_) (fun b13 => ?_)
      · have hf := zo_t hf b13
        refine zq_wg 1 (pc' := 70) (lv' := [some (.ref x9), some (.int x10), some (.int x11), none]) (st' := [.ref x9]) (h' := h12) rfl ?_
        obtain ⟨v14, e15, hf⟩ := zo_b_s hf
        refine zr_gR rfl rfl (by decide) rfl e15 ?_
        refine zq_wg 1 (pc' := 74) (lv' := [some (.ref x9), some (.int x10), some (.int x11), none]) (st' := [.ref x9, .ref v14]) (h' := h12) rfl ?_
        obtain ⟨v16, e17, hf⟩ := zo_b_s hf
        refine zr_gR rfl rfl (by decide) rfl e17 ?_
        obtain ⟨v18, e19, hf⟩ := zo_b_s hf
        refine zr_gR rfl rfl (by decide) rfl e19 ?_
        obtain ⟨e23, v21, h20, e22, hf⟩ := zo_v_s hf
        refine zr_cv zq_m74 [.ref v18] [] rfl rfl rfl rfl rfl (Nat.le_of_ble_eq_true rfl) (Nat.le_of_ble_eq_true rfl) e23 (zx_Army_strength_ok sc d (by omega) e22) ?_
        refine zq_wg 0 (pc' := 83) (lv' := [some (.ref x9), some (.int x10), some (.int x11), none]) (st' := [.int v21]) (h' := h20) rfl ?_
        refine zq_wg 3 (pc' := 86) (lv' := [some (.ref x9), some (.int x10), some (.int x11), some (.int v21)]) (st' := [.int v21, .ref x9]) (h' := h20) rfl ?_
        obtain ⟨e27, w25, h24, e26, hf⟩ := zo_v_s hf
        refine zr_cv zq_m135 [.int v21] [] rfl rfl rfl rfl rfl (Nat.le_of_ble_eq_true rfl) (Nat.le_of_ble_eq_true rfl) e27 (zx_fillDelays_ok sc d (by omega) e26) ?_
        refine zq_wg 0 (pc' := 89) (lv' := [some (.ref x9), some (.int x10), some (.int x11), some (.int v21)]) (st' := []) (h' := h24) rfl ?_
        refine zq_wg 1 (pc' := 90) (lv' := [some (.ref x9), some (.int x10), some (.int x11), some (.int v21)]) (st' := [.int x10]) (h' := h24) rfl ?_
        refine zr_if (x10 = 0) 93 110 (st' := []) rfl rfl (fun b28 => ?_) (fun b28 => ?_)
        · have hf := zo_t hf b28
          refine zq_wg 1 (pc' := 94) (lv' := [some (.ref x9), some (.int x10), some (.int x11), some (.int v21)]) (st' := [.ref x9]) (h' := h24) rfl ?_
          obtain ⟨v29, e30, hf⟩ := zo_b_s hf
          refine zr_gR rfl rfl (by decide) rfl e30 ?_
          refine zq_wg 1 (pc' := 98) (lv' := [some (.ref x9), some (.int x10), some (.int x11), some (.int v21)]) (st' := [.ref x9, .ref v29]) (h' := h24) rfl ?_
          obtain ⟨v31, e32, hf⟩ := zo_b_s hf
          refine zr_gR rfl rfl (by decide) rfl e32 ?_
          obtain ⟨v33, e34, hf⟩ := zo_b_s hf
          refine zr_gI rfl rfl (by decide) rfl e34 ?_
          obtain ⟨v36, h35, e37, hf⟩ := zo_c_s hf
          refine zr_cs zq_m12 [.ref v29, .int v33] [] rfl rfl (by decide) rfl rfl rfl (Nat.le_of_ble_eq_true rfl) (Nat.le_of_ble_eq_true rfl) (zx_at_ok sc d (by omega) e37) ?_
          refine zq_wg 0 (pc' := 107) (lv' := [some (.ref x9), some (.int x10), some (.int x11), some (.int v21)]) (st' := [.int v36]) (h' := h35) rfl ?_
          refine zq_wg 1 (pc' := 115) (lv' := [some (.ref x9), some (.int x10), some (.int x11), some (.int v21)]) (st' := [.int v36]) (h' := h35) rfl ?_
          exact zr_ri rfl rfl rfl hf
        · have hf := zo_f hf b28
          refine zq_wg 2 (pc' := 112) (lv' := [some (.ref x9), some (.int x10), some (.int x11), some (.int v21)]) (st' := [.int v21, .ref x9]) (h' := h24) rfl ?_
          obtain ⟨e41, v39, h38, e40, hf⟩ := zo_v_s hf
          refine zr_cv zq_m136 [.int v21] [] rfl rfl rfl rfl rfl (Nat.le_of_ble_eq_true rfl) (Nat.le_of_ble_eq_true rfl) e41 (zx_firstDelaying_ok sc d (by omega) e40) ?_
          refine zq_wg 0 (pc' := 115) (lv' := [some (.ref x9), some (.int x10), some (.int x11), some (.int v21)]) (st' := [.int v39]) (h' := h38) rfl ?_
          exact zr_ri rfl rfl rfl hf
      · have hf := zo_f hf b13
        refine zq_wg 1 (pc' := 50) (lv' := [some (.ref x9), some (.int x10), some (.int x11), none]) (st' := [.int x10]) (h' := h12) rfl ?_
        refine zr_if (x10 = 0) 53 67 (st' := []) rfl rfl (fun b42 => ?_) (fun b42 => ?_)
        · have hf := zo_t hf b42
          refine zq_wg 1 (pc' := 54) (lv' := [some (.ref x9), some (.int x10), some (.int x11), none]) (st' := [.ref x9]) (h' := h12) rfl ?_
          obtain ⟨v43, e44, hf⟩ := zo_b_s hf
          refine zr_gR rfl rfl (by decide) rfl e44 ?_
          obtain ⟨v45, e46, hf⟩ := zo_b_s hf
          refine zr_gI rfl rfl (by decide) rfl e46 ?_
          refine zr_if (0 < v45) 67 63 (st' := []) rfl rfl (fun b47 => ?_) (fun b47 => ?_)
          · have hf := zo_t hf b47
            refine zq_wg 1 (pc' := 68) (lv' := [some (.ref x9), some (.int x10), some (.int x11), none]) (st' := [.int (-1 : Int32)]) (h' := h12) rfl ?_
            exact zr_ri rfl rfl rfl hf
          · have hf := zo_f hf b47
            refine zq_wg 2 (pc' := 68) (lv' := [some (.ref x9), some (.int x10), some (.int x11), none]) (st' := [.int (0 : Int32)]) (h' := h12) rfl ?_
            exact zr_ri rfl rfl rfl hf
        · have hf := zo_f hf b42
          refine zq_wg 1 (pc' := 68) (lv' := [some (.ref x9), some (.int x10), some (.int x11), none]) (st' := [.int (-1 : Int32)]) (h' := h12) rfl ?_
          exact zr_ri rfl rfl rfl hf
    obtain ⟨j39_50, hjj39_50, hf⟩ := zo_lj hf
    have kj39_50 : ∀ (x48 : Nat) (x49 : Int32) (h50 : zH), j39_50 x48 x49 h50 = some (ro_, ho_) → zq_wp sc (d + 1) 134 39 [some (.ref x48), some (.int x49), none, none] [] h50 (some (.int ro_), ho_) := by
      intro x48 x49 h50 hf
      rw [hjj39_50] at hf
      refine zq_wg 2 (pc' := 44) (lv' := [some (.ref x48), some (.int x49), none, none]) (st' := [.int (1 : Int32)]) (h' := h50) rfl ?_
      exact kj44_12 x48 x49 (1 : Int32) h50 hf
    refine zr_if (v7 ≤ 0) 39 22 (st' := []) rfl rfl (fun b51 => ?_) (fun b51 => ?_)
    · have hf := zo_t hf b51
      exact kj39_50 a0 a1 h1 hf
    · have hf := zo_f hf b51
      refine zq_wg 1 (pc' := 23) (lv' := [some (.ref a0), some (.int a1), none, none]) (st' := [.ref a0]) (h' := h1) rfl ?_
      obtain ⟨v52, e53, hf⟩ := zo_b_s hf
      refine zr_gR rfl rfl (by decide) rfl e53 ?_
      obtain ⟨v54, e55, hf⟩ := zo_b_s hf
      refine zr_gI rfl rfl (by decide) rfl e55 ?_
      refine zq_wg 1 (pc' := 30) (lv' := [some (.ref a0), some (.int a1), none, none]) (st' := [.ref a0, .int v54]) (h' := h1) rfl ?_
      obtain ⟨v56, e57, hf⟩ := zo_b_s hf
      refine zr_gR rfl rfl (by decide) rfl e57 ?_
      obtain ⟨v58, e59, hf⟩ := zo_b_s hf
      refine zr_gI rfl rfl (by decide) rfl e59 ?_
      refine zr_if (v54 < v58) 43 39 (st' := []) rfl rfl (fun b60 => ?_) (fun b60 => ?_)
      · have hf := zo_t hf b60
        refine zq_wg 1 (pc' := 44) (lv' := [some (.ref a0), some (.int a1), none, none]) (st' := [.int (0 : Int32)]) (h' := h1) rfl ?_
        exact kj44_12 a0 a1 (0 : Int32) h1 hf
      · have hf := zo_f hf b60
        exact kj39_50 a0 a1 h1 hf
set_option maxRecDepth 4000 in
def zx_years_l60 (sc : zX) : Nat → Nat → Int32 → Int32 → Int32 → Int32 → Int32 → zH → (Nat → Int32 → Int32 → Int32 → zH → Option (Int32 × zH)) → Option (Int32 × zH)
  | 0, _, _, _, _, _, _, _, _ => none
  | n + 1, y27, y28, y29, y30, y31, y32, h33, k175 => if y28 ≤ y32 then (k175 y27 y29 y30 y31 h33) else (zo_b (zo_gR h33 9 y27 6) (fun v35 => zo_b (zo_gR h33 9 y27 11) (fun v37 => zo_b (zo_gR h33 9 y27 2) (fun v39 => zo_v h33 v35 3 (zx_Raffle_deal sc v35 v37 v39 h33) (fun w42 h41 => zo_b (zo_gR h41 9 y27 2) (fun v45 => zo_b (zo_gR h41 9 y27 6) (fun v47 => zo_v h41 v47 3 (zx_Raffle_below sc v47 (3 : Int32) h41) (fun v50 h49 => zo_b (zo_pI h49 4 v45 2 v50) (fun h53 => zo_b (zo_gR h53 9 y27 2) (fun v55 => zo_b (zo_pI h53 4 v55 4 (0 : Int32)) (fun h57 => zo_b (zo_gR h57 9 y27 2) (fun v59 => zo_b (zo_gR h57 4 v59 0) (fun v61 => zo_c (zx_at sc v61 (0 : Int32) h57) (fun v64 h63 => zo_l (fun (x66 : Nat) (x67 : Int32) (x68 : Int32) (x69 : Int32) (x70 : Int32) (x71 : Int32) (h72 : zH) => zo_b (zo_gR h72 9 x66 2) (fun v73 => zo_b (zo_gR h72 9 x66 11) (fun v75 => zo_b (zo_gR h72 9 x66 11) (fun v77 => zo_b (zo_gI h72 0 v77 5) (fun v79 => zo_v h72 v73 4 (zx_State_pass sc v73 v75 v79 h72) (fun v82 h81 => zx_years_l60 sc n x66 x67 x68 (x69 + v82) x70 (x71 + (1 : Int32)) h81 k175)))))) (fun j146_72 => if v64 = (-1 : Int32) then (j146_72 y27 y28 y29 y30 y31 y32 h63) else (zo_b (zo_gR h63 9 y27 11) (fun v86 => zo_v h63 v86 0 (zx_Army_skillOf sc v86 v64 (0 : Int32) h63) (fun v89 h88 => zo_b (zo_gR h88 9 y27 11) (fun v92 => zo_b (zo_gI h88 0 v92 6) (fun v94 => if v94 ≤ v89 then (j146_72 y27 y28 y29 y30 y31 y32 h88) else (j146_72 y27 y28 y29 y30 (y31 + (1 : Int32)) y32 h88)))))))))))))))))))))
set_option maxRecDepth 4000 in
def zx_years (sc : zX) (a0 : Nat) (a1 : Int32) (a2 : Int32) (a3 : Int32) (h : zH) : Option (Int32 × zH) := zo_c (zx_within sc a1 (0 : Int32) (9999 : Int32) h) (fun v2 h1 => if v2 = 0 then (some ((-1 : Int32), h1)) else (zo_c (zx_within sc a2 (1 : Int32) (40 : Int32) h1) (fun v6 h5 => if v6 = 0 then (some ((-1 : Int32), h5)) else (zo_c (zx_within sc a3 (0 : Int32) (2 : Int32) h5) (fun v10 h9 => if v10 = 0 then (some ((-1 : Int32), h9)) else (zo_b (zo_gR h9 9 a0 2) (fun v13 => zo_b (zo_gR h9 9 a0 1) (fun v15 => zo_v h9 v13 4 (zx_State_copyFrom sc v13 v15 h9) (fun w18 h17 => zo_b (zo_gR h17 9 a0 6) (fun v21 => zo_v h17 v21 3 (zx_Raffle_sow sc v21 a1 h17) (fun w24 h23 => zx_years_l60 sc zo_F a0 a2 a3 (0 : Int32) (0 : Int32) (0 : Int32) h23 (fun (x97 : Nat) (x98 : Int32) (x99 : Int32) (x100 : Int32) (h101 : zH) => if x98 = 0 then (zo_b (zo_gR h101 9 x97 2) (fun v103 => zo_b (zo_gI h101 4 v103 3) (fun v105 => some (v105, h101)))) else (if x98 = (1 : Int32) then (some (x99, h101)) else (some (x100, h101)))))))))))))))
set_option maxRecDepth 4000 in
theorem zx_years_l60_ok (sc : zX) (d : Nat) (hd : 4 ≤ d) : ∀ (n : Nat) (y27 : Nat) (y28 : Int32) (y29 : Int32) (y30 : Int32) (y31 : Int32) (y32 : Int32) (h33 : zH) (k175 : Nat → Int32 → Int32 → Int32 → zH → Option (Int32 × zH)) (ro_ : Int32) (ho_ : zH), (∀ (z0 : Nat) (z1 : Int32) (z2 : Int32) (z3 : Int32) (hz : zH), k175 z0 z1 z2 z3 hz = some (ro_, ho_) → zq_wp sc (d + 1) 137 175 [some (.ref z0), none, none, some (.int z1), some (.int z2), some (.int z3), none, none] [] hz (some (.int ro_), ho_)) → zx_years_l60 sc n y27 y28 y29 y30 y31 y32 h33 k175 = some (ro_, ho_) → zq_wp sc (d + 1) 137 60 [some (.ref y27), none, some (.int y28), some (.int y29), some (.int y30), some (.int y31), some (.int y32), none] [] h33 (some (.int ro_), ho_) := by
  intro n
  induction n with
  | zero => intro y27 y28 y29 y30 y31 y32 h33 k175 ro_ ho_ hk175 hf; cases hf
  | succ n ih =>
    intro y27 y28 y29 y30 y31 y32 h33 k175 ro_ ho_ hk175 hf
    refine zq_wg 2 (pc' := 63) (lv' := [some (.ref y27), none, some (.int y28), some (.int y29), some (.int y30), some (.int y31), some (.int y32), none]) (st' := [.int y28, .int y32]) (h' := h33) rfl ?_
    refine zr_if (y28 ≤ y32) 175 66 (st' := []) rfl rfl (fun b34 => ?_) (fun b34 => ?_)
    · have hf := zo_t hf b34
      refine zq_fg [some (.ref y27), none, none, some (.int y29), some (.int y30), some (.int y31), none, none] (zq_lvle_s (zq_lvle_s (zq_lvle_n (zq_lvle_s (zq_lvle_s (zq_lvle_s (zq_lvle_n (zq_lvle_s zq_lvle_nil)))))))) ?_
      exact hk175 y27 y29 y30 y31 h33 hf
    · have hf := zo_f hf b34
      refine zq_wg 1 (pc' := 67) (lv' := [some (.ref y27), none, some (.int y28), some (.int y29), some (.int y30), some (.int y31), some (.int y32), none]) (st' := [.ref y27]) (h' := h33) rfl ?_
      obtain ⟨v35, e36, hf⟩ := zo_b_s hf
      refine zr_gR rfl rfl (by decide) rfl e36 ?_
      refine zq_wg 1 (pc' := 71) (lv' := [some (.ref y27), none, some (.int y28), some (.int y29), some (.int y30), some (.int y31), some (.int y32), none]) (st' := [.ref y27, .ref v35]) (h' := h33) rfl ?_
      obtain ⟨v37, e38, hf⟩ := zo_b_s hf
      refine zr_gR rfl rfl (by decide) rfl e38 ?_
      refine zq_wg 1 (pc' := 75) (lv' := [some (.ref y27), none, some (.int y28), some (.int y29), some (.int y30), some (.int y31), some (.int y32), none]) (st' := [.ref y27, .ref v37, .ref v35]) (h' := h33) rfl ?_
      obtain ⟨v39, e40, hf⟩ := zo_b_s hf
      refine zr_gR rfl rfl (by decide) rfl e40 ?_
      obtain ⟨e44, w42, h41, e43, hf⟩ := zo_v_s hf
      refine zr_cv zq_m80 [.ref v37, .ref v39] [] rfl rfl rfl rfl rfl (Nat.le_of_ble_eq_true rfl) (Nat.le_of_ble_eq_true rfl) e44 (zx_Raffle_deal_ok sc d (by omega) e43) ?_
      refine zq_wg 0 (pc' := 81) (lv' := [some (.ref y27), none, some (.int y28), some (.int y29), some (.int y30), some (.int y31), some (.int y32), none]) (st' := []) (h' := h41) rfl ?_
      refine zq_wg 1 (pc' := 82) (lv' := [some (.ref y27), none, some (.int y28), some (.int y29), some (.int y30), some (.int y31), some (.int y32), none]) (st' := [.ref y27]) (h' := h41) rfl ?_
      obtain ⟨v45, e46, hf⟩ := zo_b_s hf
      refine zr_gR rfl rfl (by decide) rfl e46 ?_
      refine zq_wg 1 (pc' := 86) (lv' := [some (.ref y27), none, some (.int y28), some (.int y29), some (.int y30), some (.int y31), some (.int y32), none]) (st' := [.ref y27, .ref v45]) (h' := h41) rfl ?_
      obtain ⟨v47, e48, hf⟩ := zo_b_s hf
      refine zr_gR rfl rfl (by decide) rfl e48 ?_
      refine zq_wg 1 (pc' := 90) (lv' := [some (.ref y27), none, some (.int y28), some (.int y29), some (.int y30), some (.int y31), some (.int y32), none]) (st' := [.int (3 : Int32), .ref v47, .ref v45]) (h' := h41) rfl ?_
      obtain ⟨e52, v50, h49, e51, hf⟩ := zo_v_s hf
      refine zr_cv zq_m81 [.int (3 : Int32)] [.ref v45] rfl rfl rfl rfl rfl (Nat.le_of_ble_eq_true rfl) (Nat.le_of_ble_eq_true rfl) e52 (zx_Raffle_below_ok sc d (by omega) e51) ?_
      refine zq_wg 0 (pc' := 93) (lv' := [some (.ref y27), none, some (.int y28), some (.int y29), some (.int y30), some (.int y31), some (.int y32), none]) (st' := [.int v50, .ref v45]) (h' := h49) rfl ?_
      obtain ⟨h53, e54, hf⟩ := zo_b_s hf
      refine zr_pI rfl rfl (by decide) rfl rfl e54 ?_
      refine zq_wg 1 (pc' := 97) (lv' := [some (.ref y27), none, some (.int y28), some (.int y29), some (.int y30), some (.int y31), some (.int y32), none]) (st' := [.ref y27]) (h' := h53) rfl ?_
      obtain ⟨v55, e56, hf⟩ := zo_b_s hf
      refine zr_gR rfl rfl (by decide) rfl e56 ?_
      refine zq_wg 1 (pc' := 101) (lv' := [some (.ref y27), none, some (.int y28), some (.int y29), some (.int y30), some (.int y31), some (.int y32), none]) (st' := [.int (0 : Int32), .ref v55]) (h' := h53) rfl ?_
      obtain ⟨h57, e58, hf⟩ := zo_b_s hf
      refine zr_pI rfl rfl (by decide) rfl rfl e58 ?_
      refine zq_wg 1 (pc' := 105) (lv' := [some (.ref y27), none, some (.int y28), some (.int y29), some (.int y30), some (.int y31), some (.int y32), none]) (st' := [.ref y27]) (h' := h57) rfl ?_
      obtain ⟨v59, e60, hf⟩ := zo_b_s hf
      refine zr_gR rfl rfl (by decide) rfl e60 ?_
      obtain ⟨v61, e62, hf⟩ := zo_b_s hf
      refine zr_gR rfl rfl (by decide) rfl e62 ?_
      refine zq_wg 1 (pc' := 112) (lv' := [some (.ref y27), none, some (.int y28), some (.int y29), some (.int y30), some (.int y31), some (.int y32), none]) (st' := [.int (0 : Int32), .ref v61]) (h' := h57) rfl ?_
      obtain ⟨v64, h63, e65, hf⟩ := zo_c_s hf
      refine zr_cs zq_m12 [.ref v61, .int (0 : Int32)] [] rfl rfl (by decide) rfl rfl rfl (Nat.le_of_ble_eq_true rfl) (Nat.le_of_ble_eq_true rfl) (zx_at_ok sc d (by omega) e65) ?_
      refine zq_wg 0 (pc' := 115) (lv' := [some (.ref y27), none, some (.int y28), some (.int y29), some (.int y30), some (.int y31), some (.int y32), none]) (st' := [.int v64]) (h' := h63) rfl ?_
      refine zq_wg 3 (pc' := 120) (lv' := [some (.ref y27), none, some (.int y28), some (.int y29), some (.int y30), some (.int y31), some (.int y32), some (.int v64)]) (st' := [.int (-1 : Int32), .int v64]) (h' := h63) rfl ?_
      obtain ⟨j146_72, hjj146_72, hf⟩ := zo_lj hf
      have kj146_72 : ∀ (x66 : Nat) (x67 : Int32) (x68 : Int32) (x69 : Int32) (x70 : Int32) (x71 : Int32) (h72 : zH), j146_72 x66 x67 x68 x69 x70 x71 h72 = some (ro_, ho_) → zq_wp sc (d + 1) 137 146 [some (.ref x66), none, some (.int x67), some (.int x68), some (.int x69), some (.int x70), some (.int x71), none] [] h72 (some (.int ro_), ho_) := by
        intro x66 x67 x68 x69 x70 x71 h72 hf
        rw [hjj146_72] at hf
        refine zq_wg 2 (pc' := 149) (lv' := [some (.ref x66), none, some (.int x67), some (.int x68), some (.int x69), some (.int x70), some (.int x71), none]) (st' := [.ref x66, .int x69]) (h' := h72) rfl ?_
        obtain ⟨v73, e74, hf⟩ := zo_b_s hf
        refine zr_gR rfl rfl (by decide) rfl e74 ?_
        refine zq_wg 1 (pc' := 153) (lv' := [some (.ref x66), none, some (.int x67), some (.int x68), some (.int x69), some (.int x70), some (.int x71), none]) (st' := [.ref x66, .ref v73, .int x69]) (h' := h72) rfl ?_
        obtain ⟨v75, e76, hf⟩ := zo_b_s hf
        refine zr_gR rfl rfl (by decide) rfl e76 ?_
        refine zq_wg 1 (pc' := 157) (lv' := [some (.ref x66), none, some (.int x67), some (.int x68), some (.int x69), some (.int x70), some (.int x71), none]) (st' := [.ref x66, .ref v75, .ref v73, .int x69]) (h' := h72) rfl ?_
        obtain ⟨v77, e78, hf⟩ := zo_b_s hf
        refine zr_gR rfl rfl (by decide) rfl e78 ?_
        obtain ⟨v79, e80, hf⟩ := zo_b_s hf
        refine zr_gI rfl rfl (by decide) rfl e80 ?_
        obtain ⟨e84, v82, h81, e83, hf⟩ := zo_v_s hf
        refine zr_cv zq_m89 [.ref v75, .int v79] [.int x69] rfl rfl rfl rfl rfl (Nat.le_of_ble_eq_true rfl) (Nat.le_of_ble_eq_true rfl) e84 (zx_State_pass_ok sc d (by omega) e83) ?_
        refine zq_wg 0 (pc' := 166) (lv' := [some (.ref x66), none, some (.int x67), some (.int x68), some (.int x69), some (.int x70), some (.int x71), none]) (st' := [.int v82, .int x69]) (h' := h81) rfl ?_
        refine zq_wg 4 (pc' := 60) (lv' := [some (.ref x66), none, some (.int x67), some (.int x68), some (.int (x69 + v82)), some (.int x70), some (.int (x71 + (1 : Int32))), none]) (st' := []) (h' := h81) rfl ?_
        exact ih x66 x67 x68 (x69 + v82) x70 (x71 + (1 : Int32)) h81 _ _ _ hk175 hf
      refine zr_if (v64 = (-1 : Int32)) 146 123 (st' := []) rfl rfl (fun b85 => ?_) (fun b85 => ?_)
      · have hf := zo_t hf b85
        refine zq_fg [some (.ref y27), none, some (.int y28), some (.int y29), some (.int y30), some (.int y31), some (.int y32), none] (zq_lvle_s (zq_lvle_s (zq_lvle_s (zq_lvle_s (zq_lvle_s (zq_lvle_s (zq_lvle_s (zq_lvle_n zq_lvle_nil)))))))) ?_
        exact kj146_72 y27 y28 y29 y30 y31 y32 h63 hf
      · have hf := zo_f hf b85
        refine zq_wg 1 (pc' := 124) (lv' := [some (.ref y27), none, some (.int y28), some (.int y29), some (.int y30), some (.int y31), some (.int y32), some (.int v64)]) (st' := [.ref y27]) (h' := h63) rfl ?_
        obtain ⟨v86, e87, hf⟩ := zo_b_s hf
        refine zr_gR rfl rfl (by decide) rfl e87 ?_
        refine zq_wg 2 (pc' := 130) (lv' := [some (.ref y27), none, some (.int y28), some (.int y29), some (.int y30), some (.int y31), some (.int y32), some (.int v64)]) (st' := [.int (0 : Int32), .int v64, .ref v86]) (h' := h63) rfl ?_
        obtain ⟨e91, v89, h88, e90, hf⟩ := zo_v_s hf
        refine zr_cv zq_m68 [.int v64, .int (0 : Int32)] [] rfl rfl rfl rfl rfl (Nat.le_of_ble_eq_true rfl) (Nat.le_of_ble_eq_true rfl) e91 (zx_Army_skillOf_ok sc d (by omega) e90) ?_
        refine zq_wg 0 (pc' := 133) (lv' := [some (.ref y27), none, some (.int y28), some (.int y29), some (.int y30), some (.int y31), some (.int y32), some (.int v64)]) (st' := [.int v89]) (h' := h88) rfl ?_
        refine zq_wg 1 (pc' := 134) (lv' := [some (.ref y27), none, some (.int y28), some (.int y29), some (.int y30), some (.int y31), some (.int y32), some (.int v64)]) (st' := [.ref y27, .int v89]) (h' := h88) rfl ?_
        obtain ⟨v92, e93, hf⟩ := zo_b_s hf
        refine zr_gR rfl rfl (by decide) rfl e93 ?_
        obtain ⟨v94, e95, hf⟩ := zo_b_s hf
        refine zr_gI rfl rfl (by decide) rfl e95 ?_
        refine zr_if (v94 ≤ v89) 146 143 (st' := []) rfl rfl (fun b96 => ?_) (fun b96 => ?_)
        · have hf := zo_t hf b96
          refine zq_fg [some (.ref y27), none, some (.int y28), some (.int y29), some (.int y30), some (.int y31), some (.int y32), none] (zq_lvle_s (zq_lvle_s (zq_lvle_s (zq_lvle_s (zq_lvle_s (zq_lvle_s (zq_lvle_s (zq_lvle_n zq_lvle_nil)))))))) ?_
          exact kj146_72 y27 y28 y29 y30 y31 y32 h88 hf
        · have hf := zo_f hf b96
          refine zq_wg 1 (pc' := 146) (lv' := [some (.ref y27), none, some (.int y28), some (.int y29), some (.int y30), some (.int (y31 + (1 : Int32))), some (.int y32), some (.int v64)]) (st' := []) (h' := h88) rfl ?_
          refine zq_fg [some (.ref y27), none, some (.int y28), some (.int y29), some (.int y30), some (.int (y31 + (1 : Int32))), some (.int y32), none] (zq_lvle_s (zq_lvle_s (zq_lvle_s (zq_lvle_s (zq_lvle_s (zq_lvle_s (zq_lvle_s (zq_lvle_n zq_lvle_nil)))))))) ?_
          exact kj146_72 y27 y28 y29 y30 (y31 + (1 : Int32)) y32 h88 hf
set_option maxRecDepth 4000 in
theorem zx_years_ok (sc : zX) (d : Nat) (hd : 5 ≤ d) {a0 : Nat} {a1 : Int32} {a2 : Int32} {a3 : Int32} {h : zH} {ro_ : Int32} {ho_ : zH} (hf : zx_years sc a0 a1 a2 a3 h = some (ro_, ho_)) : zq_wm sc d 137 [.ref a0, .int a1, .int a2, .int a3] h (some (.int ro_), ho_) := by
  unfold zx_years at hf
  obtain ⟨d, rfl⟩ : ∃ d', d = d' + 1 := ⟨d - 1, by omega⟩
  have hd : 4 ≤ d := by omega
  show zq_wp sc (d + 1) 137 0 [some (.ref a0), some (.int a1), some (.int a2), some (.int a3), none, none, none, none] [] h _
  refine zq_wg 3 (pc' := 5) (lv' := [some (.ref a0), some (.int a1), some (.int a2), some (.int a3), none, none, none, none]) (st' := [.int (9999 : Int32), .int (0 : Int32), .int a1]) (h' := h) rfl ?_
  obtain ⟨v2, h1, e3, hf⟩ := zo_c_s hf
  refine zr_cs zq_m35 [.int a1, .int (0 : Int32), .int (9999 : Int32)] [] rfl rfl (by decide) rfl rfl rfl (Nat.le_of_ble_eq_true rfl) (Nat.le_of_ble_eq_true rfl) (zx_within_ok sc d (by omega) e3) ?_
  refine zq_wg 0 (pc' := 8) (lv' := [some (.ref a0), some (.int a1), some (.int a2), some (.int a3), none, none, none, none]) (st' := [.int v2]) (h' := h1) rfl ?_
  refine zr_if (v2 = 0) 30 11 (st' := []) rfl rfl (fun b4 => ?_) (fun b4 => ?_)
  · have hf := zo_t hf b4
    refine zq_wg 1 (pc' := 31) (lv' := [some (.ref a0), some (.int a1), some (.int a2), some (.int a3), none, none, none, none]) (st' := [.int (-1 : Int32)]) (h' := h1) rfl ?_
    exact zr_ri rfl rfl rfl hf
  · have hf := zo_f hf b4
    refine zq_wg 3 (pc' := 15) (lv' := [some (.ref a0), some (.int a1), some (.int a2), some (.int a3), none, none, none, none]) (st' := [.int (40 : Int32), .int (1 : Int32), .int a2]) (h' := h1) rfl ?_
    obtain ⟨v6, h5, e7, hf⟩ := zo_c_s hf
    refine zr_cs zq_m35 [.int a2, .int (1 : Int32), .int (40 : Int32)] [] rfl rfl (by decide) rfl rfl rfl (Nat.le_of_ble_eq_true rfl) (Nat.le_of_ble_eq_true rfl) (zx_within_ok sc d (by omega) e7) ?_
    refine zq_wg 0 (pc' := 18) (lv' := [some (.ref a0), some (.int a1), some (.int a2), some (.int a3), none, none, none, none]) (st' := [.int v6]) (h' := h5) rfl ?_
    refine zr_if (v6 = 0) 30 21 (st' := []) rfl rfl (fun b8 => ?_) (fun b8 => ?_)
    · have hf := zo_t hf b8
      refine zq_wg 1 (pc' := 31) (lv' := [some (.ref a0), some (.int a1), some (.int a2), some (.int a3), none, none, none, none]) (st' := [.int (-1 : Int32)]) (h' := h5) rfl ?_
      exact zr_ri rfl rfl rfl hf
    · have hf := zo_f hf b8
      refine zq_wg 3 (pc' := 24) (lv' := [some (.ref a0), some (.int a1), some (.int a2), some (.int a3), none, none, none, none]) (st' := [.int (2 : Int32), .int (0 : Int32), .int a3]) (h' := h5) rfl ?_
      obtain ⟨v10, h9, e11, hf⟩ := zo_c_s hf
      refine zr_cs zq_m35 [.int a3, .int (0 : Int32), .int (2 : Int32)] [] rfl rfl (by decide) rfl rfl rfl (Nat.le_of_ble_eq_true rfl) (Nat.le_of_ble_eq_true rfl) (zx_within_ok sc d (by omega) e11) ?_
      refine zq_wg 0 (pc' := 27) (lv' := [some (.ref a0), some (.int a1), some (.int a2), some (.int a3), none, none, none, none]) (st' := [.int v10]) (h' := h9) rfl ?_
      refine zr_if (v10 = 0) 30 32 (st' := []) rfl rfl (fun b12 => ?_) (fun b12 => ?_)
      · have hf := zo_t hf b12
        refine zq_wg 1 (pc' := 31) (lv' := [some (.ref a0), some (.int a1), some (.int a2), some (.int a3), none, none, none, none]) (st' := [.int (-1 : Int32)]) (h' := h9) rfl ?_
        exact zr_ri rfl rfl rfl hf
      · have hf := zo_f hf b12
        refine zq_wg 1 (pc' := 33) (lv' := [some (.ref a0), some (.int a1), some (.int a2), some (.int a3), none, none, none, none]) (st' := [.ref a0]) (h' := h9) rfl ?_
        obtain ⟨v13, e14, hf⟩ := zo_b_s hf
        refine zr_gR rfl rfl (by decide) rfl e14 ?_
        refine zq_wg 1 (pc' := 37) (lv' := [some (.ref a0), some (.int a1), some (.int a2), some (.int a3), none, none, none, none]) (st' := [.ref a0, .ref v13]) (h' := h9) rfl ?_
        obtain ⟨v15, e16, hf⟩ := zo_b_s hf
        refine zr_gR rfl rfl (by decide) rfl e16 ?_
        obtain ⟨e20, w18, h17, e19, hf⟩ := zo_v_s hf
        refine zr_cv zq_m78 [.ref v15] [] rfl rfl rfl rfl rfl (Nat.le_of_ble_eq_true rfl) (Nat.le_of_ble_eq_true rfl) e20 (zx_State_copyFrom_ok sc d (by omega) e19) ?_
        refine zq_wg 0 (pc' := 43) (lv' := [some (.ref a0), some (.int a1), some (.int a2), some (.int a3), none, none, none, none]) (st' := []) (h' := h17) rfl ?_
        refine zq_wg 1 (pc' := 44) (lv' := [some (.ref a0), some (.int a1), some (.int a2), some (.int a3), none, none, none, none]) (st' := [.ref a0]) (h' := h17) rfl ?_
        obtain ⟨v21, e22, hf⟩ := zo_b_s hf
        refine zr_gR rfl rfl (by decide) rfl e22 ?_
        refine zq_wg 1 (pc' := 48) (lv' := [some (.ref a0), some (.int a1), some (.int a2), some (.int a3), none, none, none, none]) (st' := [.int a1, .ref v21]) (h' := h17) rfl ?_
        obtain ⟨e26, w24, h23, e25, hf⟩ := zo_v_s hf
        refine zr_cv zq_m79 [.int a1] [] rfl rfl rfl rfl rfl (Nat.le_of_ble_eq_true rfl) (Nat.le_of_ble_eq_true rfl) e26 (zx_Raffle_sow_ok sc d (by omega) e25) ?_
        refine zq_wg 0 (pc' := 51) (lv' := [some (.ref a0), some (.int a1), some (.int a2), some (.int a3), none, none, none, none]) (st' := []) (h' := h23) rfl ?_
        refine zq_wg 6 (pc' := 60) (lv' := [some (.ref a0), some (.int a1), some (.int a2), some (.int a3), some (.int (0 : Int32)), some (.int (0 : Int32)), some (.int (0 : Int32)), none]) (st' := []) (h' := h23) rfl ?_
        refine zq_fg [some (.ref a0), none, some (.int a2), some (.int a3), some (.int (0 : Int32)), some (.int (0 : Int32)), some (.int (0 : Int32)), none] (zq_lvle_s (zq_lvle_n (zq_lvle_s (zq_lvle_s (zq_lvle_s (zq_lvle_s (zq_lvle_s (zq_lvle_s zq_lvle_nil)))))))) ?_
        refine zx_years_l60_ok sc d hd zo_F a0 a2 a3 (0 : Int32) (0 : Int32) (0 : Int32) h23 _ _ _ ?_ hf
        · intro x97 x98 x99 x100 h101 hf
          refine zq_wg 1 (pc' := 176) (lv' := [some (.ref x97), none, none, some (.int x98), some (.int x99), some (.int x100), none, none]) (st' := [.int x98]) (h' := h101) rfl ?_
          refine zr_if (x98 = 0) 179 187 (st' := []) rfl rfl (fun b102 => ?_) (fun b102 => ?_)
          · have hf := zo_t hf b102
            refine zq_wg 1 (pc' := 180) (lv' := [some (.ref x97), none, none, some (.int x98), some (.int x99), some (.int x100), none, none]) (st' := [.ref x97]) (h' := h101) rfl ?_
            obtain ⟨v103, e104, hf⟩ := zo_b_s hf
            refine zr_gR rfl rfl (by decide) rfl e104 ?_
            obtain ⟨v105, e106, hf⟩ := zo_b_s hf
            refine zr_gI rfl rfl (by decide) rfl e106 ?_
            exact zr_ri rfl rfl rfl hf
          · have hf := zo_f hf b102
            refine zq_wg 2 (pc' := 189) (lv' := [some (.ref x97), none, none, some (.int x98), some (.int x99), some (.int x100), none, none]) (st' := [.int (1 : Int32), .int x98]) (h' := h101) rfl ?_
            refine zr_if (x98 = (1 : Int32)) 192 197 (st' := []) rfl rfl (fun b107 => ?_) (fun b107 => ?_)
            · have hf := zo_t hf b107
              refine zq_wg 2 (pc' := 199) (lv' := [some (.ref x97), none, none, some (.int x98), some (.int x99), some (.int x100), none, none]) (st' := [.int x99]) (h' := h101) rfl ?_
              exact zr_ri rfl rfl rfl hf
            · have hf := zo_f hf b107
              refine zq_wg 1 (pc' := 199) (lv' := [some (.ref x97), none, none, some (.int x98), some (.int x99), some (.int x100), none, none]) (st' := [.int x100]) (h' := h101) rfl ?_
              exact zr_ri rfl rfl rfl hf
set_option maxRecDepth 4000 in
def zx_Notes_copyFrom_l2 (sc : zX) : Nat → Nat → Nat → Int32 → zH → (Nat → Nat → zH → Option (Unit × zH)) → Option (Unit × zH)
  | 0, _, _, _, _, _ => none
  | n + 1, y1, y2, y3, h4, k29 => if (5 : Int32) ≤ y3 then (k29 y1 y2 h4) else (zo_b (zo_gR h4 2 y1 0) (fun v6 => zo_b (zo_gR h4 2 y2 0) (fun v8 => zo_c (zx_at sc v8 y3 h4) (fun v11 h10 => zo_c (zx_put sc v6 y3 v11 h10) (fun w14 h13 => zx_Notes_copyFrom_l2 sc n y1 y2 (y3 + (1 : Int32)) h13 k29)))))
set_option maxRecDepth 4000 in
def zx_Notes_copyFrom_l31 (sc : zX) : Nat → Nat → Nat → Int32 → zH → (Nat → Nat → zH → Option (Unit × zH)) → Option (Unit × zH)
  | 0, _, _, _, _, _ => none
  | n + 1, y19, y20, y21, h22, k75 => if (8 : Int32) ≤ y21 then (k75 y19 y20 h22) else (zo_b (zo_gR h22 2 y19 1) (fun v24 => zo_b (zo_gR h22 2 y20 1) (fun v26 => zo_c (zx_at sc v26 y21 h22) (fun v29 h28 => zo_c (zx_put sc v24 y21 v29 h28) (fun w32 h31 => zo_b (zo_gR h31 2 y19 2) (fun v34 => zo_b (zo_gR h31 2 y20 2) (fun v36 => zo_c (zx_at sc v36 y21 h31) (fun v39 h38 => zo_c (zx_put sc v34 y21 v39 h38) (fun w42 h41 => zx_Notes_copyFrom_l31 sc n y19 y20 (y21 + (1 : Int32)) h41 k75)))))))))
set_option maxRecDepth 4000 in
def zx_Notes_copyFrom (sc : zX) (a0 : Nat) (a1 : Nat) (h : zH) : Option (Unit × zH) := zx_Notes_copyFrom_l2 sc zo_F a0 a1 (0 : Int32) h (fun (x16 : Nat) (x17 : Nat) (h18 : zH) => zx_Notes_copyFrom_l31 sc zo_F x16 x17 (0 : Int32) h18 (fun (x44 : Nat) (x45 : Nat) (h46 : zH) => zo_b (zo_gI h46 2 x45 3) (fun v47 => zo_b (zo_pI h46 2 x44 3 v47) (fun h49 => zo_b (zo_gI h49 2 x45 4) (fun v51 => zo_b (zo_pI h49 2 x44 4 v51) (fun h53 => some ((), h53)))))))
set_option maxRecDepth 4000 in
theorem zx_Notes_copyFrom_l2_ok (sc : zX) (d : Nat) (hd : 0 ≤ d) : ∀ (n : Nat) (y1 : Nat) (y2 : Nat) (y3 : Int32) (h4 : zH) (k29 : Nat → Nat → zH → Option (Unit × zH)) (ro_ : Unit) (ho_ : zH), (∀ (z0 : Nat) (z1 : Nat) (hz : zH), k29 z0 z1 hz = some (ro_, ho_) → zq_wp sc (d + 1) 139 29 [some (.ref z0), some (.ref z1), none] [] hz (none, ho_)) → zx_Notes_copyFrom_l2 sc n y1 y2 y3 h4 k29 = some (ro_, ho_) → zq_wp sc (d + 1) 139 2 [some (.ref y1), some (.ref y2), some (.int y3)] [] h4 (none, ho_) := by
  intro n
  induction n with
  | zero => intro y1 y2 y3 h4 k29 ro_ ho_ hk29 hf; cases hf
  | succ n ih =>
    intro y1 y2 y3 h4 k29 ro_ ho_ hk29 hf
    refine zq_wg 2 (pc' := 4) (lv' := [some (.ref y1), some (.ref y2), some (.int y3)]) (st' := [.int (5 : Int32), .int y3]) (h' := h4) rfl ?_
    refine zr_if ((5 : Int32) ≤ y3) 29 7 (st' := []) rfl rfl (fun b5 => ?_) (fun b5 => ?_)
    · have hf := zo_t hf b5
      refine zq_fg [some (.ref y1), some (.ref y2), none] (zq_lvle_s (zq_lvle_s (zq_lvle_n zq_lvle_nil))) ?_
      exact hk29 y1 y2 h4 hf
    · have hf := zo_f hf b5
      refine zq_wg 1 (pc' := 8) (lv' := [some (.ref y1), some (.ref y2), some (.int y3)]) (st' := [.ref y1]) (h' := h4) rfl ?_
      obtain ⟨v6, e7, hf⟩ := zo_b_s hf
      refine zr_gR rfl rfl (by decide) rfl e7 ?_
      refine zq_wg 2 (pc' := 13) (lv' := [some (.ref y1), some (.ref y2), some (.int y3)]) (st' := [.ref y2, .int y3, .ref v6]) (h' := h4) rfl ?_
      obtain ⟨v8, e9, hf⟩ := zo_b_s hf
      refine zr_gR rfl rfl (by decide) rfl e9 ?_
      refine zq_wg 1 (pc' := 17) (lv' := [some (.ref y1), some (.ref y2), some (.int y3)]) (st' := [.int y3, .ref v8, .int y3, .ref v6]) (h' := h4) rfl ?_
      obtain ⟨v11, h10, e12, hf⟩ := zo_c_s hf
      refine zr_cs zq_m12 [.ref v8, .int y3] [.int y3, .ref v6] rfl rfl (by decide) rfl rfl rfl (Nat.le_of_ble_eq_true rfl) (Nat.le_of_ble_eq_true rfl) (zx_at_ok sc d (by omega) e12) ?_
      refine zq_wg 0 (pc' := 20) (lv' := [some (.ref y1), some (.ref y2), some (.int y3)]) (st' := [.int v11, .int y3, .ref v6]) (h' := h10) rfl ?_
      obtain ⟨w14, h13, e15, hf⟩ := zo_c_s hf
      refine zr_cs zq_m11 [.ref v6, .int y3, .int v11] [] rfl rfl (by decide) rfl rfl rfl (Nat.le_of_ble_eq_true rfl) (Nat.le_of_ble_eq_true rfl) (zx_put_ok sc d (by omega) e15) ?_
      refine zq_wg 0 (pc' := 23) (lv' := [some (.ref y1), some (.ref y2), some (.int y3)]) (st' := []) (h' := h13) rfl ?_
      refine zq_wg 2 (pc' := 2) (lv' := [some (.ref y1), some (.ref y2), some (.int (y3 + (1 : Int32)))]) (st' := []) (h' := h13) rfl ?_
      exact ih y1 y2 (y3 + (1 : Int32)) h13 _ _ _ hk29 hf
set_option maxRecDepth 4000 in
theorem zx_Notes_copyFrom_l31_ok (sc : zX) (d : Nat) (hd : 0 ≤ d) : ∀ (n : Nat) (y19 : Nat) (y20 : Nat) (y21 : Int32) (h22 : zH) (k75 : Nat → Nat → zH → Option (Unit × zH)) (ro_ : Unit) (ho_ : zH), (∀ (z0 : Nat) (z1 : Nat) (hz : zH), k75 z0 z1 hz = some (ro_, ho_) → zq_wp sc (d + 1) 139 75 [some (.ref z0), some (.ref z1), none] [] hz (none, ho_)) → zx_Notes_copyFrom_l31 sc n y19 y20 y21 h22 k75 = some (ro_, ho_) → zq_wp sc (d + 1) 139 31 [some (.ref y19), some (.ref y20), some (.int y21)] [] h22 (none, ho_) := by
  intro n
  induction n with
  | zero => intro y19 y20 y21 h22 k75 ro_ ho_ hk75 hf; cases hf
  | succ n ih =>
    intro y19 y20 y21 h22 k75 ro_ ho_ hk75 hf
    refine zq_wg 2 (pc' := 34) (lv' := [some (.ref y19), some (.ref y20), some (.int y21)]) (st' := [.int (8 : Int32), .int y21]) (h' := h22) rfl ?_
    refine zr_if ((8 : Int32) ≤ y21) 75 37 (st' := []) rfl rfl (fun b23 => ?_) (fun b23 => ?_)
    · have hf := zo_t hf b23
      refine zq_fg [some (.ref y19), some (.ref y20), none] (zq_lvle_s (zq_lvle_s (zq_lvle_n zq_lvle_nil))) ?_
      exact hk75 y19 y20 h22 hf
    · have hf := zo_f hf b23
      refine zq_wg 1 (pc' := 38) (lv' := [some (.ref y19), some (.ref y20), some (.int y21)]) (st' := [.ref y19]) (h' := h22) rfl ?_
      obtain ⟨v24, e25, hf⟩ := zo_b_s hf
      refine zr_gR rfl rfl (by decide) rfl e25 ?_
      refine zq_wg 2 (pc' := 43) (lv' := [some (.ref y19), some (.ref y20), some (.int y21)]) (st' := [.ref y20, .int y21, .ref v24]) (h' := h22) rfl ?_
      obtain ⟨v26, e27, hf⟩ := zo_b_s hf
      refine zr_gR rfl rfl (by decide) rfl e27 ?_
      refine zq_wg 1 (pc' := 47) (lv' := [some (.ref y19), some (.ref y20), some (.int y21)]) (st' := [.int y21, .ref v26, .int y21, .ref v24]) (h' := h22) rfl ?_
      obtain ⟨v29, h28, e30, hf⟩ := zo_c_s hf
      refine zr_cs zq_m12 [.ref v26, .int y21] [.int y21, .ref v24] rfl rfl (by decide) rfl rfl rfl (Nat.le_of_ble_eq_true rfl) (Nat.le_of_ble_eq_true rfl) (zx_at_ok sc d (by omega) e30) ?_
      refine zq_wg 0 (pc' := 50) (lv' := [some (.ref y19), some (.ref y20), some (.int y21)]) (st' := [.int v29, .int y21, .ref v24]) (h' := h28) rfl ?_
      obtain ⟨w32, h31, e33, hf⟩ := zo_c_s hf
      refine zr_cs zq_m11 [.ref v24, .int y21, .int v29] [] rfl rfl (by decide) rfl rfl rfl (Nat.le_of_ble_eq_true rfl) (Nat.le_of_ble_eq_true rfl) (zx_put_ok sc d (by omega) e33) ?_
      refine zq_wg 0 (pc' := 53) (lv' := [some (.ref y19), some (.ref y20), some (.int y21)]) (st' := []) (h' := h31) rfl ?_
      refine zq_wg 1 (pc' := 54) (lv' := [some (.ref y19), some (.ref y20), some (.int y21)]) (st' := [.ref y19]) (h' := h31) rfl ?_
      obtain ⟨v34, e35, hf⟩ := zo_b_s hf
      refine zr_gR rfl rfl (by decide) rfl e35 ?_
      refine zq_wg 2 (pc' := 59) (lv' := [some (.ref y19), some (.ref y20), some (.int y21)]) (st' := [.ref y20, .int y21, .ref v34]) (h' := h31) rfl ?_
      obtain ⟨v36, e37, hf⟩ := zo_b_s hf
      refine zr_gR rfl rfl (by decide) rfl e37 ?_
      refine zq_wg 1 (pc' := 63) (lv' := [some (.ref y19), some (.ref y20), some (.int y21)]) (st' := [.int y21, .ref v36, .int y21, .ref v34]) (h' := h31) rfl ?_
      obtain ⟨v39, h38, e40, hf⟩ := zo_c_s hf
      refine zr_cs zq_m12 [.ref v36, .int y21] [.int y21, .ref v34] rfl rfl (by decide) rfl rfl rfl (Nat.le_of_ble_eq_true rfl) (Nat.le_of_ble_eq_true rfl) (zx_at_ok sc d (by omega) e40) ?_
      refine zq_wg 0 (pc' := 66) (lv' := [some (.ref y19), some (.ref y20), some (.int y21)]) (st' := [.int v39, .int y21, .ref v34]) (h' := h38) rfl ?_
      obtain ⟨w42, h41, e43, hf⟩ := zo_c_s hf
      refine zr_cs zq_m11 [.ref v34, .int y21, .int v39] [] rfl rfl (by decide) rfl rfl rfl (Nat.le_of_ble_eq_true rfl) (Nat.le_of_ble_eq_true rfl) (zx_put_ok sc d (by omega) e43) ?_
      refine zq_wg 0 (pc' := 69) (lv' := [some (.ref y19), some (.ref y20), some (.int y21)]) (st' := []) (h' := h41) rfl ?_
      refine zq_wg 2 (pc' := 31) (lv' := [some (.ref y19), some (.ref y20), some (.int (y21 + (1 : Int32)))]) (st' := []) (h' := h41) rfl ?_
      exact ih y19 y20 (y21 + (1 : Int32)) h41 _ _ _ hk75 hf
set_option maxRecDepth 4000 in
theorem zx_Notes_copyFrom_ok (sc : zX) (d : Nat) (hd : 1 ≤ d) {a0 : Nat} {a1 : Nat} {h : zH} {ro_ : Unit} {ho_ : zH} (hf : zx_Notes_copyFrom sc a0 a1 h = some (ro_, ho_)) : zq_wm sc d 139 [.ref a0, .ref a1] h (none, ho_) := by
  unfold zx_Notes_copyFrom at hf
  obtain ⟨d, rfl⟩ : ∃ d', d = d' + 1 := ⟨d - 1, by omega⟩
  have hd : 0 ≤ d := by omega
  show zq_wp sc (d + 1) 139 0 [some (.ref a0), some (.ref a1), none] [] h _
  refine zq_wg 2 (pc' := 2) (lv' := [some (.ref a0), some (.ref a1), some (.int (0 : Int32))]) (st' := []) (h' := h) rfl ?_
  refine zx_Notes_copyFrom_l2_ok sc d hd zo_F a0 a1 (0 : Int32) h _ _ _ ?_ hf
  · intro x16 x17 h18 hf
    refine zq_wg 2 (pc' := 31) (lv' := [some (.ref x16), some (.ref x17), some (.int (0 : Int32))]) (st' := []) (h' := h18) rfl ?_
    refine zx_Notes_copyFrom_l31_ok sc d hd zo_F x16 x17 (0 : Int32) h18 _ _ _ ?_ hf
    · intro x44 x45 h46 hf
      refine zq_wg 2 (pc' := 77) (lv' := [some (.ref x44), some (.ref x45), none]) (st' := [.ref x45, .ref x44]) (h' := h46) rfl ?_
      obtain ⟨v47, e48, hf⟩ := zo_b_s hf
      refine zr_gI rfl rfl (by decide) rfl e48 ?_
      obtain ⟨h49, e50, hf⟩ := zo_b_s hf
      refine zr_pI rfl rfl (by decide) rfl rfl e50 ?_
      refine zq_wg 2 (pc' := 85) (lv' := [some (.ref x44), some (.ref x45), none]) (st' := [.ref x45, .ref x44]) (h' := h49) rfl ?_
      obtain ⟨v51, e52, hf⟩ := zo_b_s hf
      refine zr_gI rfl rfl (by decide) rfl e52 ?_
      obtain ⟨h53, e54, hf⟩ := zo_b_s hf
      refine zr_pI rfl rfl (by decide) rfl rfl e54 ?_
      exact zr_rv rfl rfl hf
set_option maxRecDepth 4000 in
def zx_mark (sc : zX) (a0 : Nat) (a1 : Int32) (a2 : Int32) (h : zH) : Option (Int32 × zH) := if a1 < 0 then (some ((0 : Int32), h)) else (if (4 : Int32) ≤ a1 then (some ((0 : Int32), h)) else (zo_l (fun (x3 : Nat) (x4 : Int32) (x5 : Int32) (h6 : zH) => if x5 = 0 then (zo_b (zo_gR h6 9 x3 8) (fun v8 => zo_b (zo_rdR h6 v8 x4) (fun v10 => zo_b (zo_gR h6 9 x3 1) (fun v12 => zo_v h6 v10 4 (zx_State_copyFrom sc v10 v12 h6) (fun w15 h14 => zo_b (zo_gR h14 9 x3 9) (fun v18 => zo_b (zo_rdR h14 v18 x4) (fun v20 => zo_b (zo_gR h14 9 x3 3) (fun v22 => zo_v h14 v20 2 (zx_Notes_copyFrom sc v20 v22 h14) (fun w25 h24 => zo_b (zo_gI h24 9 x3 17) (fun v28 => zo_b (zo_pI h24 9 x3 17 (v28 ||| ((1 : Int32) <<< (x4 &&& 31)))) (fun h30 => some ((1 : Int32), h30)))))))))))) else (zo_b (zo_gR h6 9 x3 1) (fun v32 => zo_b (zo_gR h6 9 x3 8) (fun v34 => zo_b (zo_rdR h6 v34 x4) (fun v36 => zo_v h6 v32 4 (zx_State_copyFrom sc v32 v36 h6) (fun w39 h38 => zo_b (zo_gR h38 9 x3 3) (fun v42 => zo_b (zo_gR h38 9 x3 9) (fun v44 => zo_b (zo_rdR h38 v44 x4) (fun v46 => zo_v h38 v42 2 (zx_Notes_copyFrom sc v42 v46 h38) (fun w49 h48 => zo_b (zo_pI h48 9 x3 15 (0 : Int32)) (fun h52 => some ((1 : Int32), h52)))))))))))) (fun j26_6 => if a2 = 0 then (j26_6 a0 a1 a2 h) else (zo_b (zo_gI h 9 a0 17) (fun v55 => if ((v55 >>> (a1 &&& 31)) &&& (1 : Int32)) = 0 then (some ((0 : Int32), h)) else (j26_6 a0 a1 a2 h))))))
set_option maxRecDepth 4000 in
theorem zx_mark_ok (sc : zX) (d : Nat) (hd : 2 ≤ d) {a0 : Nat} {a1 : Int32} {a2 : Int32} {h : zH} {ro_ : Int32} {ho_ : zH} (hf : zx_mark sc a0 a1 a2 h = some (ro_, ho_)) : zq_wm sc d 138 [.ref a0, .int a1, .int a2] h (some (.int ro_), ho_) := by
  unfold zx_mark at hf
  obtain ⟨d, rfl⟩ : ∃ d', d = d' + 1 := ⟨d - 1, by omega⟩
  have hd : 1 ≤ d := by omega
  show zq_wp sc (d + 1) 138 0 [some (.ref a0), some (.int a1), some (.int a2)] [] h _
  refine zq_wg 1 (pc' := 1) (lv' := [some (.ref a0), some (.int a1), some (.int a2)]) (st' := [.int a1]) (h' := h) rfl ?_
  refine zr_if (a1 < 0) 24 4 (st' := []) rfl rfl (fun b1 => ?_) (fun b1 => ?_)
  · have hf := zo_t hf b1
    refine zq_wg 1 (pc' := 25) (lv' := [some (.ref a0), some (.int a1), some (.int a2)]) (st' := [.int (0 : Int32)]) (h' := h) rfl ?_
    exact zr_ri rfl rfl rfl hf
  · have hf := zo_f hf b1
    refine zq_wg 2 (pc' := 6) (lv' := [some (.ref a0), some (.int a1), some (.int a2)]) (st' := [.int (4 : Int32), .int a1]) (h' := h) rfl ?_
    refine zr_if ((4 : Int32) ≤ a1) 24 9 (st' := []) rfl rfl (fun b2 => ?_) (fun b2 => ?_)
    · have hf := zo_t hf b2
      refine zq_wg 1 (pc' := 25) (lv' := [some (.ref a0), some (.int a1), some (.int a2)]) (st' := [.int (0 : Int32)]) (h' := h) rfl ?_
      exact zr_ri rfl rfl rfl hf
    · have hf := zo_f hf b2
      refine zq_wg 1 (pc' := 10) (lv' := [some (.ref a0), some (.int a1), some (.int a2)]) (st' := [.int a2]) (h' := h) rfl ?_
      obtain ⟨j26_6, hjj26_6, hf⟩ := zo_lj hf
      have kj26_6 : ∀ (x3 : Nat) (x4 : Int32) (x5 : Int32) (h6 : zH), j26_6 x3 x4 x5 h6 = some (ro_, ho_) → zq_wp sc (d + 1) 138 26 [some (.ref x3), some (.int x4), some (.int x5)] [] h6 (some (.int ro_), ho_) := by
        intro x3 x4 x5 h6 hf
        rw [hjj26_6] at hf
        refine zq_wg 1 (pc' := 27) (lv' := [some (.ref x3), some (.int x4), some (.int x5)]) (st' := [.int x5]) (h' := h6) rfl ?_
        refine zr_if (x5 = 0) 64 30 (st' := []) rfl rfl (fun b7 => ?_) (fun b7 => ?_)
        · have hf := zo_t hf b7
          refine zq_wg 1 (pc' := 65) (lv' := [some (.ref x3), some (.int x4), some (.int x5)]) (st' := [.ref x3]) (h' := h6) rfl ?_
          obtain ⟨v8, e9, hf⟩ := zo_b_s hf
          refine zr_gR rfl rfl (by decide) rfl e9 ?_
          refine zq_wg 1 (pc' := 69) (lv' := [some (.ref x3), some (.int x4), some (.int x5)]) (st' := [.int x4, .ref v8]) (h' := h6) rfl ?_
          obtain ⟨v10, e11, hf⟩ := zo_b_s hf
          refine zr_aald rfl e11 ?_
          refine zq_wg 1 (pc' := 71) (lv' := [some (.ref x3), some (.int x4), some (.int x5)]) (st' := [.ref x3, .ref v10]) (h' := h6) rfl ?_
          obtain ⟨v12, e13, hf⟩ := zo_b_s hf
          refine zr_gR rfl rfl (by decide) rfl e13 ?_
          obtain ⟨e17, w15, h14, e16, hf⟩ := zo_v_s hf
          refine zr_cv zq_m78 [.ref v12] [] rfl rfl rfl rfl rfl (Nat.le_of_ble_eq_true rfl) (Nat.le_of_ble_eq_true rfl) e17 (zx_State_copyFrom_ok sc d (by omega) e16) ?_
          refine zq_wg 0 (pc' := 77) (lv' := [some (.ref x3), some (.int x4), some (.int x5)]) (st' := []) (h' := h14) rfl ?_
          refine zq_wg 1 (pc' := 78) (lv' := [some (.ref x3), some (.int x4), some (.int x5)]) (st' := [.ref x3]) (h' := h14) rfl ?_
          obtain ⟨v18, e19, hf⟩ := zo_b_s hf
          refine zr_gR rfl rfl (by decide) rfl e19 ?_
          refine zq_wg 1 (pc' := 82) (lv' := [some (.ref x3), some (.int x4), some (.int x5)]) (st' := [.int x4, .ref v18]) (h' := h14) rfl ?_
          obtain ⟨v20, e21, hf⟩ := zo_b_s hf
          refine zr_aald rfl e21 ?_
          refine zq_wg 1 (pc' := 84) (lv' := [some (.ref x3), some (.int x4), some (.int x5)]) (st' := [.ref x3, .ref v20]) (h' := h14) rfl ?_
          obtain ⟨v22, e23, hf⟩ := zo_b_s hf
          refine zr_gR rfl rfl (by decide) rfl e23 ?_
          obtain ⟨e27, w25, h24, e26, hf⟩ := zo_v_s hf
          refine zr_cv zq_m139 [.ref v22] [] rfl rfl rfl rfl rfl (Nat.le_of_ble_eq_true rfl) (Nat.le_of_ble_eq_true rfl) e27 (zx_Notes_copyFrom_ok sc d (by omega) e26) ?_
          refine zq_wg 0 (pc' := 90) (lv' := [some (.ref x3), some (.int x4), some (.int x5)]) (st' := []) (h' := h24) rfl ?_
          refine zq_wg 2 (pc' := 92) (lv' := [some (.ref x3), some (.int x4), some (.int x5)]) (st' := [.ref x3, .ref x3]) (h' := h24) rfl ?_
          obtain ⟨v28, e29, hf⟩ := zo_b_s hf
          refine zr_gI rfl rfl (by decide) rfl e29 ?_
          refine zq_wg 4 (pc' := 99) (lv' := [some (.ref x3), some (.int x4), some (.int x5)]) (st' := [.int (v28 ||| ((1 : Int32) <<< (x4 &&& 31))), .ref x3]) (h' := h24) rfl ?_
          obtain ⟨h30, e31, hf⟩ := zo_b_s hf
          refine zr_pI rfl rfl (by decide) rfl rfl e31 ?_
          refine zq_wg 1 (pc' := 103) (lv' := [some (.ref x3), some (.int x4), some (.int x5)]) (st' := [.int (1 : Int32)]) (h' := h30) rfl ?_
          exact zr_ri rfl rfl rfl hf
        · have hf := zo_f hf b7
          refine zq_wg 1 (pc' := 31) (lv' := [some (.ref x3), some (.int x4), some (.int x5)]) (st' := [.ref x3]) (h' := h6) rfl ?_
          obtain ⟨v32, e33, hf⟩ := zo_b_s hf
          refine zr_gR rfl rfl (by decide) rfl e33 ?_
          refine zq_wg 1 (pc' := 35) (lv' := [some (.ref x3), some (.int x4), some (.int x5)]) (st' := [.ref x3, .ref v32]) (h' := h6) rfl ?_
          obtain ⟨v34, e35, hf⟩ := zo_b_s hf
          refine zr_gR rfl rfl (by decide) rfl e35 ?_
          refine zq_wg 1 (pc' := 39) (lv' := [some (.ref x3), some (.int x4), some (.int x5)]) (st' := [.int x4, .ref v34, .ref v32]) (h' := h6) rfl ?_
          obtain ⟨v36, e37, hf⟩ := zo_b_s hf
          refine zr_aald rfl e37 ?_
          obtain ⟨e41, w39, h38, e40, hf⟩ := zo_v_s hf
          refine zr_cv zq_m78 [.ref v36] [] rfl rfl rfl rfl rfl (Nat.le_of_ble_eq_true rfl) (Nat.le_of_ble_eq_true rfl) e41 (zx_State_copyFrom_ok sc d (by omega) e40) ?_
          refine zq_wg 0 (pc' := 43) (lv' := [some (.ref x3), some (.int x4), some (.int x5)]) (st' := []) (h' := h38) rfl ?_
          refine zq_wg 1 (pc' := 44) (lv' := [some (.ref x3), some (.int x4), some (.int x5)]) (st' := [.ref x3]) (h' := h38) rfl ?_
          obtain ⟨v42, e43, hf⟩ := zo_b_s hf
          refine zr_gR rfl rfl (by decide) rfl e43 ?_
          refine zq_wg 1 (pc' := 48) (lv' := [some (.ref x3), some (.int x4), some (.int x5)]) (st' := [.ref x3, .ref v42]) (h' := h38) rfl ?_
          obtain ⟨v44, e45, hf⟩ := zo_b_s hf
          refine zr_gR rfl rfl (by decide) rfl e45 ?_
          refine zq_wg 1 (pc' := 52) (lv' := [some (.ref x3), some (.int x4), some (.int x5)]) (st' := [.int x4, .ref v44, .ref v42]) (h' := h38) rfl ?_
          obtain ⟨v46, e47, hf⟩ := zo_b_s hf
          refine zr_aald rfl e47 ?_
          obtain ⟨e51, w49, h48, e50, hf⟩ := zo_v_s hf
          refine zr_cv zq_m139 [.ref v46] [] rfl rfl rfl rfl rfl (Nat.le_of_ble_eq_true rfl) (Nat.le_of_ble_eq_true rfl) e51 (zx_Notes_copyFrom_ok sc d (by omega) e50) ?_
          refine zq_wg 0 (pc' := 56) (lv' := [some (.ref x3), some (.int x4), some (.int x5)]) (st' := []) (h' := h48) rfl ?_
          refine zq_wg 2 (pc' := 58) (lv' := [some (.ref x3), some (.int x4), some (.int x5)]) (st' := [.int (0 : Int32), .ref x3]) (h' := h48) rfl ?_
          obtain ⟨h52, e53, hf⟩ := zo_b_s hf
          refine zr_pI rfl rfl (by decide) rfl rfl e53 ?_
          refine zq_wg 2 (pc' := 103) (lv' := [some (.ref x3), some (.int x4), some (.int x5)]) (st' := [.int (1 : Int32)]) (h' := h52) rfl ?_
          exact zr_ri rfl rfl rfl hf
      refine zr_if (a2 = 0) 26 13 (st' := []) rfl rfl (fun b54 => ?_) (fun b54 => ?_)
      · have hf := zo_t hf b54
        exact kj26_6 a0 a1 a2 h hf
      · have hf := zo_f hf b54
        refine zq_wg 1 (pc' := 14) (lv' := [some (.ref a0), some (.int a1), some (.int a2)]) (st' := [.ref a0]) (h' := h) rfl ?_
        obtain ⟨v55, e56, hf⟩ := zo_b_s hf
        refine zr_gI rfl rfl (by decide) rfl e56 ?_
        refine zq_wg 4 (pc' := 21) (lv' := [some (.ref a0), some (.int a1), some (.int a2)]) (st' := [.int ((v55 >>> (a1 &&& 31)) &&& (1 : Int32))]) (h' := h) rfl ?_
        refine zr_if (((v55 >>> (a1 &&& 31)) &&& (1 : Int32)) = 0) 24 26 (st' := []) rfl rfl (fun b57 => ?_) (fun b57 => ?_)
        · have hf := zo_t hf b57
          refine zq_wg 1 (pc' := 25) (lv' := [some (.ref a0), some (.int a1), some (.int a2)]) (st' := [.int (0 : Int32)]) (h' := h) rfl ?_
          exact zr_ri rfl rfl rfl hf
        · have hf := zo_f hf b57
          exact kj26_6 a0 a1 a2 h hf
set_option maxRecDepth 4000 in
def zx_State_coinsOfAll_l4 (sc : zX) : Nat → Nat → Nat → Int32 → Int32 → zH → Option (Int32 × zH)
  | 0, _, _, _, _, _ => none
  | n + 1, y1, y2, y3, y4, h5 => zo_b (zo_gI h5 0 y2 1) (fun v6 => if v6 ≤ y4 then (some (y3, h5)) else (zo_b (zo_gR h5 4 y1 1) (fun v9 => zo_c (zx_at sc v9 y4 h5) (fun v12 h11 => zx_State_coinsOfAll_l4 sc n y1 y2 (y3 + v12) (y4 + (1 : Int32)) h11 ))))
set_option maxRecDepth 4000 in
def zx_State_coinsOfAll (sc : zX) (a0 : Nat) (a1 : Nat) (h : zH) : Option (Int32 × zH) := zx_State_coinsOfAll_l4 sc zo_F a0 a1 (0 : Int32) (0 : Int32) h 
set_option maxRecDepth 4000 in
theorem zx_State_coinsOfAll_l4_ok (sc : zX) (d : Nat) (hd : 0 ≤ d) : ∀ (n : Nat) (y1 : Nat) (y2 : Nat) (y3 : Int32) (y4 : Int32) (h5 : zH) (ro_ : Int32) (ho_ : zH),  zx_State_coinsOfAll_l4 sc n y1 y2 y3 y4 h5  = some (ro_, ho_) → zq_wp sc (d + 1) 141 4 [some (.ref y1), some (.ref y2), some (.int y3), some (.int y4)] [] h5 (some (.int ro_), ho_) := by
  intro n
  induction n with
  | zero => intro y1 y2 y3 y4 h5 ro_ ho_ hf; cases hf
  | succ n ih =>
    intro y1 y2 y3 y4 h5 ro_ ho_ hf
    refine zq_wg 2 (pc' := 6) (lv' := [some (.ref y1), some (.ref y2), some (.int y3), some (.int y4)]) (st' := [.ref y2, .int y4]) (h' := h5) rfl ?_
    obtain ⟨v6, e7, hf⟩ := zo_b_s hf
    refine zr_gI rfl rfl (by decide) rfl e7 ?_
    refine zr_if (v6 ≤ y4) 29 12 (st' := []) rfl rfl (fun b8 => ?_) (fun b8 => ?_)
    · have hf := zo_t hf b8
      refine zq_wg 1 (pc' := 30) (lv' := [some (.ref y1), some (.ref y2), some (.int y3), some (.int y4)]) (st' := [.int y3]) (h' := h5) rfl ?_
      exact zr_ri rfl rfl rfl hf
    · have hf := zo_f hf b8
      refine zq_wg 2 (pc' := 14) (lv' := [some (.ref y1), some (.ref y2), some (.int y3), some (.int y4)]) (st' := [.ref y1, .int y3]) (h' := h5) rfl ?_
      obtain ⟨v9, e10, hf⟩ := zo_b_s hf
      refine zr_gR rfl rfl (by decide) rfl e10 ?_
      refine zq_wg 1 (pc' := 18) (lv' := [some (.ref y1), some (.ref y2), some (.int y3), some (.int y4)]) (st' := [.int y4, .ref v9, .int y3]) (h' := h5) rfl ?_
      obtain ⟨v12, h11, e13, hf⟩ := zo_c_s hf
      refine zr_cs zq_m12 [.ref v9, .int y4] [.int y3] rfl rfl (by decide) rfl rfl rfl (Nat.le_of_ble_eq_true rfl) (Nat.le_of_ble_eq_true rfl) (zx_at_ok sc d (by omega) e13) ?_
      refine zq_wg 0 (pc' := 21) (lv' := [some (.ref y1), some (.ref y2), some (.int y3), some (.int y4)]) (st' := [.int v12, .int y3]) (h' := h11) rfl ?_
      refine zq_wg 4 (pc' := 4) (lv' := [some (.ref y1), some (.ref y2), some (.int (y3 + v12)), some (.int (y4 + (1 : Int32)))]) (st' := []) (h' := h11) rfl ?_
      exact ih y1 y2 (y3 + v12) (y4 + (1 : Int32)) h11 _ _ hf
set_option maxRecDepth 4000 in
theorem zx_State_coinsOfAll_ok (sc : zX) (d : Nat) (hd : 1 ≤ d) {a0 : Nat} {a1 : Nat} {h : zH} {ro_ : Int32} {ho_ : zH} (hf : zx_State_coinsOfAll sc a0 a1 h = some (ro_, ho_)) : zq_wm sc d 141 [.ref a0, .ref a1] h (some (.int ro_), ho_) := by
  unfold zx_State_coinsOfAll at hf
  obtain ⟨d, rfl⟩ : ∃ d', d = d' + 1 := ⟨d - 1, by omega⟩
  have hd : 0 ≤ d := by omega
  show zq_wp sc (d + 1) 141 0 [some (.ref a0), some (.ref a1), none, none] [] h _
  refine zq_wg 4 (pc' := 4) (lv' := [some (.ref a0), some (.ref a1), some (.int (0 : Int32)), some (.int (0 : Int32))]) (st' := []) (h' := h) rfl ?_
  refine zx_State_coinsOfAll_l4_ok sc d hd zo_F a0 a1 (0 : Int32) (0 : Int32) h _ _ hf
set_option maxRecDepth 4000 in
def zx_count (sc : zX) (a0 : Nat) (a1 : Int32) (h : zH) : Option (Int32 × zH) := if a1 = (0 : Int32) then (zo_b (zo_gR h 9 a0 11) (fun v2 => zo_b (zo_gI h 0 v2 0) (fun v4 => some (v4, h)))) else if a1 = (1 : Int32) then (zo_b (zo_gR h 9 a0 11) (fun v7 => zo_b (zo_gI h 0 v7 1) (fun v9 => some (v9, h)))) else if a1 = (2 : Int32) then (zo_b (zo_gR h 9 a0 11) (fun v12 => zo_b (zo_gI h 0 v12 2) (fun v14 => some (v14, h)))) else if a1 = (3 : Int32) then (zo_b (zo_gR h 9 a0 1) (fun v17 => zo_b (zo_gI h 4 v17 3) (fun v19 => some (v19, h)))) else if a1 = (4 : Int32) then (zo_b (zo_gR h 9 a0 1) (fun v22 => zo_b (zo_gI h 4 v22 4) (fun v24 => some (v24, h)))) else if a1 = (5 : Int32) then (zo_b (zo_gR h 9 a0 1) (fun v27 => zo_b (zo_gI h 4 v27 2) (fun v29 => some (v29, h)))) else if a1 = (6 : Int32) then (zo_b (zo_gR h 9 a0 1) (fun v32 => zo_b (zo_gR h 9 a0 11) (fun v34 => zo_v h v32 4 (zx_State_coinsOfAll sc v32 v34 h) (fun v37 h36 => some (v37, h36))))) else if a1 = (7 : Int32) then (zo_b (zo_gR h 9 a0 13) (fun v41 => zo_b (zo_gI h 7 v41 0) (fun v43 => some (v43, h)))) else if a1 = (8 : Int32) then (zo_b (zo_gR h 9 a0 3) (fun v46 => zo_b (zo_gI h 2 v46 3) (fun v48 => some (v48, h)))) else if a1 = (9 : Int32) then (zo_b (zo_gR h 9 a0 3) (fun v51 => zo_b (zo_gI h 2 v51 4) (fun v53 => some (v53, h)))) else if a1 = (10 : Int32) then (zo_b (zo_gI h 9 a0 15) (fun v56 => some (v56, h))) else if a1 = (11 : Int32) then (zo_b (zo_gR h 9 a0 0) (fun v59 => zo_b (zo_gI h 5 v59 1) (fun v61 => some (v61, h)))) else if a1 = (12 : Int32) then (zo_b (zo_gR h 9 a0 1) (fun v64 => zo_b (zo_gI h 4 v64 5) (fun v66 => if v66 = 0 then (some ((0 : Int32), h)) else (some ((1 : Int32), h))))) else (some ((-1 : Int32), h))
set_option maxRecDepth 4000 in
theorem zx_count_ok (sc : zX) (d : Nat) (hd : 2 ≤ d) {a0 : Nat} {a1 : Int32} {h : zH} {ro_ : Int32} {ho_ : zH} (hf : zx_count sc a0 a1 h = some (ro_, ho_)) : zq_wm sc d 140 [.ref a0, .int a1] h (some (.int ro_), ho_) := by
  unfold zx_count at hf
  obtain ⟨d, rfl⟩ : ∃ d', d = d' + 1 := ⟨d - 1, by omega⟩
  have hd : 1 ≤ d := by omega
  show zq_wp sc (d + 1) 140 0 [some (.ref a0), some (.int a1)] [] h _
  refine zq_wg 1 (pc' := 1) (lv' := [some (.ref a0), some (.int a1)]) (st' := [.int a1]) (h' := h) rfl ?_
  by_cases b1 : a1 = (0 : Int32)
  · have hf := zo_t hf b1
    refine zr_ts (t := 68) rfl (by rw [b1]; rfl) ?_
    refine zq_wg 1 (pc' := 69) (lv' := [some (.ref a0), some (.int a1)]) (st' := [.ref a0]) (h' := h) rfl ?_
    obtain ⟨v2, e3, hf⟩ := zo_b_s hf
    refine zr_gR rfl rfl (by decide) rfl e3 ?_
    obtain ⟨v4, e5, hf⟩ := zo_b_s hf
    refine zr_gI rfl rfl (by decide) rfl e5 ?_
    exact zr_ri rfl rfl rfl hf
  have hf := zo_f hf b1
  by_cases b6 : a1 = (1 : Int32)
  · have hf := zo_t hf b6
    refine zr_ts (t := 76) rfl (by rw [b6]; rfl) ?_
    refine zq_wg 1 (pc' := 77) (lv' := [some (.ref a0), some (.int a1)]) (st' := [.ref a0]) (h' := h) rfl ?_
    obtain ⟨v7, e8, hf⟩ := zo_b_s hf
    refine zr_gR rfl rfl (by decide) rfl e8 ?_
    obtain ⟨v9, e10, hf⟩ := zo_b_s hf
    refine zr_gI rfl rfl (by decide) rfl e10 ?_
    exact zr_ri rfl rfl rfl hf
  have hf := zo_f hf b6
  by_cases b11 : a1 = (2 : Int32)
  · have hf := zo_t hf b11
    refine zr_ts (t := 84) rfl (by rw [b11]; rfl) ?_
    refine zq_wg 1 (pc' := 85) (lv' := [some (.ref a0), some (.int a1)]) (st' := [.ref a0]) (h' := h) rfl ?_
    obtain ⟨v12, e13, hf⟩ := zo_b_s hf
    refine zr_gR rfl rfl (by decide) rfl e13 ?_
    obtain ⟨v14, e15, hf⟩ := zo_b_s hf
    refine zr_gI rfl rfl (by decide) rfl e15 ?_
    exact zr_ri rfl rfl rfl hf
  have hf := zo_f hf b11
  by_cases b16 : a1 = (3 : Int32)
  · have hf := zo_t hf b16
    refine zr_ts (t := 92) rfl (by rw [b16]; rfl) ?_
    refine zq_wg 1 (pc' := 93) (lv' := [some (.ref a0), some (.int a1)]) (st' := [.ref a0]) (h' := h) rfl ?_
    obtain ⟨v17, e18, hf⟩ := zo_b_s hf
    refine zr_gR rfl rfl (by decide) rfl e18 ?_
    obtain ⟨v19, e20, hf⟩ := zo_b_s hf
    refine zr_gI rfl rfl (by decide) rfl e20 ?_
    exact zr_ri rfl rfl rfl hf
  have hf := zo_f hf b16
  by_cases b21 : a1 = (4 : Int32)
  · have hf := zo_t hf b21
    refine zr_ts (t := 100) rfl (by rw [b21]; rfl) ?_
    refine zq_wg 1 (pc' := 101) (lv' := [some (.ref a0), some (.int a1)]) (st' := [.ref a0]) (h' := h) rfl ?_
    obtain ⟨v22, e23, hf⟩ := zo_b_s hf
    refine zr_gR rfl rfl (by decide) rfl e23 ?_
    obtain ⟨v24, e25, hf⟩ := zo_b_s hf
    refine zr_gI rfl rfl (by decide) rfl e25 ?_
    exact zr_ri rfl rfl rfl hf
  have hf := zo_f hf b21
  by_cases b26 : a1 = (5 : Int32)
  · have hf := zo_t hf b26
    refine zr_ts (t := 108) rfl (by rw [b26]; rfl) ?_
    refine zq_wg 1 (pc' := 109) (lv' := [some (.ref a0), some (.int a1)]) (st' := [.ref a0]) (h' := h) rfl ?_
    obtain ⟨v27, e28, hf⟩ := zo_b_s hf
    refine zr_gR rfl rfl (by decide) rfl e28 ?_
    obtain ⟨v29, e30, hf⟩ := zo_b_s hf
    refine zr_gI rfl rfl (by decide) rfl e30 ?_
    exact zr_ri rfl rfl rfl hf
  have hf := zo_f hf b26
  by_cases b31 : a1 = (6 : Int32)
  · have hf := zo_t hf b31
    refine zr_ts (t := 116) rfl (by rw [b31]; rfl) ?_
    refine zq_wg 1 (pc' := 117) (lv' := [some (.ref a0), some (.int a1)]) (st' := [.ref a0]) (h' := h) rfl ?_
    obtain ⟨v32, e33, hf⟩ := zo_b_s hf
    refine zr_gR rfl rfl (by decide) rfl e33 ?_
    refine zq_wg 1 (pc' := 121) (lv' := [some (.ref a0), some (.int a1)]) (st' := [.ref a0, .ref v32]) (h' := h) rfl ?_
    obtain ⟨v34, e35, hf⟩ := zo_b_s hf
    refine zr_gR rfl rfl (by decide) rfl e35 ?_
    obtain ⟨e39, v37, h36, e38, hf⟩ := zo_v_s hf
    refine zr_cv zq_m141 [.ref v34] [] rfl rfl rfl rfl rfl (Nat.le_of_ble_eq_true rfl) (Nat.le_of_ble_eq_true rfl) e39 (zx_State_coinsOfAll_ok sc d (by omega) e38) ?_
    refine zq_wg 0 (pc' := 127) (lv' := [some (.ref a0), some (.int a1)]) (st' := [.int v37]) (h' := h36) rfl ?_
    exact zr_ri rfl rfl rfl hf
  have hf := zo_f hf b31
  by_cases b40 : a1 = (7 : Int32)
  · have hf := zo_t hf b40
    refine zr_ts (t := 128) rfl (by rw [b40]; rfl) ?_
    refine zq_wg 1 (pc' := 129) (lv' := [some (.ref a0), some (.int a1)]) (st' := [.ref a0]) (h' := h) rfl ?_
    obtain ⟨v41, e42, hf⟩ := zo_b_s hf
    refine zr_gR rfl rfl (by decide) rfl e42 ?_
    obtain ⟨v43, e44, hf⟩ := zo_b_s hf
    refine zr_gI rfl rfl (by decide) rfl e44 ?_
    exact zr_ri rfl rfl rfl hf
  have hf := zo_f hf b40
  by_cases b45 : a1 = (8 : Int32)
  · have hf := zo_t hf b45
    refine zr_ts (t := 136) rfl (by rw [b45]; rfl) ?_
    refine zq_wg 1 (pc' := 137) (lv' := [some (.ref a0), some (.int a1)]) (st' := [.ref a0]) (h' := h) rfl ?_
    obtain ⟨v46, e47, hf⟩ := zo_b_s hf
    refine zr_gR rfl rfl (by decide) rfl e47 ?_
    obtain ⟨v48, e49, hf⟩ := zo_b_s hf
    refine zr_gI rfl rfl (by decide) rfl e49 ?_
    exact zr_ri rfl rfl rfl hf
  have hf := zo_f hf b45
  by_cases b50 : a1 = (9 : Int32)
  · have hf := zo_t hf b50
    refine zr_ts (t := 144) rfl (by rw [b50]; rfl) ?_
    refine zq_wg 1 (pc' := 145) (lv' := [some (.ref a0), some (.int a1)]) (st' := [.ref a0]) (h' := h) rfl ?_
    obtain ⟨v51, e52, hf⟩ := zo_b_s hf
    refine zr_gR rfl rfl (by decide) rfl e52 ?_
    obtain ⟨v53, e54, hf⟩ := zo_b_s hf
    refine zr_gI rfl rfl (by decide) rfl e54 ?_
    exact zr_ri rfl rfl rfl hf
  have hf := zo_f hf b50
  by_cases b55 : a1 = (10 : Int32)
  · have hf := zo_t hf b55
    refine zr_ts (t := 152) rfl (by rw [b55]; rfl) ?_
    refine zq_wg 1 (pc' := 153) (lv' := [some (.ref a0), some (.int a1)]) (st' := [.ref a0]) (h' := h) rfl ?_
    obtain ⟨v56, e57, hf⟩ := zo_b_s hf
    refine zr_gI rfl rfl (by decide) rfl e57 ?_
    exact zr_ri rfl rfl rfl hf
  have hf := zo_f hf b55
  by_cases b58 : a1 = (11 : Int32)
  · have hf := zo_t hf b58
    refine zr_ts (t := 157) rfl (by rw [b58]; rfl) ?_
    refine zq_wg 1 (pc' := 158) (lv' := [some (.ref a0), some (.int a1)]) (st' := [.ref a0]) (h' := h) rfl ?_
    obtain ⟨v59, e60, hf⟩ := zo_b_s hf
    refine zr_gR rfl rfl (by decide) rfl e60 ?_
    obtain ⟨v61, e62, hf⟩ := zo_b_s hf
    refine zr_gI rfl rfl (by decide) rfl e62 ?_
    exact zr_ri rfl rfl rfl hf
  have hf := zo_f hf b58
  by_cases b63 : a1 = (12 : Int32)
  · have hf := zo_t hf b63
    refine zr_ts (t := 165) rfl (by rw [b63]; rfl) ?_
    refine zq_wg 1 (pc' := 166) (lv' := [some (.ref a0), some (.int a1)]) (st' := [.ref a0]) (h' := h) rfl ?_
    obtain ⟨v64, e65, hf⟩ := zo_b_s hf
    refine zr_gR rfl rfl (by decide) rfl e65 ?_
    obtain ⟨v66, e67, hf⟩ := zo_b_s hf
    refine zr_gI rfl rfl (by decide) rfl e67 ?_
    refine zr_if (v66 = 0) 179 175 (st' := []) rfl rfl (fun b68 => ?_) (fun b68 => ?_)
    · have hf := zo_t hf b68
      refine zq_wg 1 (pc' := 180) (lv' := [some (.ref a0), some (.int a1)]) (st' := [.int (0 : Int32)]) (h' := h) rfl ?_
      exact zr_ri rfl rfl rfl hf
    · have hf := zo_f hf b68
      refine zq_wg 2 (pc' := 180) (lv' := [some (.ref a0), some (.int a1)]) (st' := [.int (1 : Int32)]) (h' := h) rfl ?_
      exact zr_ri rfl rfl rfl hf
  have hf := zo_f hf b63
  refine zr_ts (t := 181) rfl (by unfold zo_ts; rw [if_pos (by have eb1 := zo_ne b1 (z := 0) (by decide); have eb6 := zo_ne b6 (z := 1) (by decide); have eb11 := zo_ne b11 (z := 2) (by decide); have eb16 := zo_ne b16 (z := 3) (by decide); have eb21 := zo_ne b21 (z := 4) (by decide); have eb26 := zo_ne b26 (z := 5) (by decide); have eb31 := zo_ne b31 (z := 6) (by decide); have eb40 := zo_ne b40 (z := 7) (by decide); have eb45 := zo_ne b45 (z := 8) (by decide); have eb50 := zo_ne b50 (z := 9) (by decide); have eb55 := zo_ne b55 (z := 10) (by decide); have eb58 := zo_ne b58 (z := 11) (by decide); have eb63 := zo_ne b63 (z := 12) (by decide); omega)]; rfl) ?_
  refine zq_wg 1 (pc' := 182) (lv' := [some (.ref a0), some (.int a1)]) (st' := [.int (-1 : Int32)]) (h' := h) rfl ?_
  exact zr_ri rfl rfl rfl hf
set_option maxRecDepth 4000 in
def zx_bestOf (sc : zX) (a0 : Int32) (a1 : Int32) (h : zH) : Option (Int32 × zH) := zo_l (if a0 < a1 then (0 : Int32) else (1 : Int32)) (fun (x1 : Int32) => zo_l (if a1 < a0 then (0 : Int32) else (2 : Int32)) (fun (x2 : Int32) => some ((x1 ||| x2), h)))
set_option maxRecDepth 4000 in
theorem zx_bestOf_ok (sc : zX) (d : Nat) (hd : 0 ≤ d) {a0 : Int32} {a1 : Int32} {h : zH} {ro_ : Int32} {ho_ : zH} (hf : zx_bestOf sc a0 a1 h = some (ro_, ho_)) : zq_wm sc d 143 [.int a0, .int a1] h (some (.int ro_), ho_) := by
  unfold zx_bestOf at hf
  show zq_wp sc d 143 0 [some (.int a0), some (.int a1)] [] h _
  refine zq_wg 2 (pc' := 2) (lv' := [some (.int a0), some (.int a1)]) (st' := [.int a1, .int a0]) (h' := h) rfl ?_
  obtain ⟨g10_1, hg10_1, hf⟩ := zo_lx hf
  have kg10_1 : ∀ (x1 : Int32), g10_1 x1 = some (ro_, ho_) → zq_wp sc d 143 10 [some (.int a0), some (.int a1)] [.int x1] h (some (.int ro_), ho_) := by
    intro x1 hf
    rw [hg10_1] at hf
    refine zq_wg 2 (pc' := 12) (lv' := [some (.int a0), some (.int a1)]) (st' := [.int a0, .int a1, .int x1]) (h' := h) rfl ?_
    obtain ⟨g20_2, hg20_2, hf⟩ := zo_lx hf
    have kg20_2 : ∀ (x2 : Int32), g20_2 x2 = some (ro_, ho_) → zq_wp sc d 143 20 [some (.int a0), some (.int a1)] [.int x2, .int x1] h (some (.int ro_), ho_) := by
      intro x2 hf
      rw [hg20_2] at hf
      refine zq_wg 1 (pc' := 21) (lv' := [some (.int a0), some (.int a1)]) (st' := [.int (x1 ||| x2)]) (h' := h) rfl ?_
      exact zr_ri rfl rfl rfl hf
    refine zr_if (a1 < a0) 19 15 (st' := [.int x1]) rfl rfl (fun b3 => ?_) (fun b3 => ?_)
    · have hf := zo_lt hf b3
      refine zq_wg 1 (pc' := 20) (lv' := [some (.int a0), some (.int a1)]) (st' := [.int (0 : Int32), .int x1]) (h' := h) rfl ?_
      exact kg20_2 _ hf
    · have hf := zo_lf hf b3
      refine zq_wg 2 (pc' := 20) (lv' := [some (.int a0), some (.int a1)]) (st' := [.int (2 : Int32), .int x1]) (h' := h) rfl ?_
      exact kg20_2 _ hf
  refine zr_if (a0 < a1) 9 5 (st' := []) rfl rfl (fun b4 => ?_) (fun b4 => ?_)
  · have hf := zo_lt hf b4
    refine zq_wg 1 (pc' := 10) (lv' := [some (.int a0), some (.int a1)]) (st' := [.int (0 : Int32)]) (h' := h) rfl ?_
    exact kg10_1 _ hf
  · have hf := zo_lf hf b4
    refine zq_wg 2 (pc' := 10) (lv' := [some (.int a0), some (.int a1)]) (st' := [.int (1 : Int32)]) (h' := h) rfl ?_
    exact kg10_1 _ hf
set_option maxRecDepth 4000 in
def zm_thrown (sc : zX) (a0 : Nat) (h : zH) : Option (Int32 × zH) := zo_b (zo_gI h 10 a0 0) (fun v1 => some (v1, h))
set_option maxRecDepth 4000 in
theorem zm_thrown_ok (sc : zX) (d : Nat) (hd : 0 ≤ d) {a0 : Nat} {h : zH} {ro_ : Int32} {ho_ : zH} (hf : zm_thrown sc a0 h = some (ro_, ho_)) : zq_wm sc d 144 [.ref a0] h (some (.int ro_), ho_) := by
  unfold zm_thrown at hf
  show zq_wp sc d 144 0 [some (.ref a0)] [] h _
  refine zq_wg 1 (pc' := 1) (lv' := [some (.ref a0)]) (st' := [.ref a0]) (h' := h) rfl ?_
  obtain ⟨v1, e2, hf⟩ := zo_b_s hf
  refine zr_gI rfl rfl (by decide) rfl e2 ?_
  exact zr_ri rfl rfl rfl hf
set_option maxRecDepth 4000 in
def zm_lay_l3 (sc : zX) : Nat → Nat → Int64 → Int32 → zH → Option (Unit × zH)
  | 0, _, _, _, _ => none
  | n + 1, y1, y2, y3, h4 => if y3 < 0 then (some ((), h4)) else (zo_l (fun (x6 : Nat) (x7 : Int64) (x8 : Int32) (h9 : zH) => zm_lay_l3 sc n x6 x7 (x8 + (-8 : Int32)) h9 ) (fun j69_9 => zo_l (fun (x10 : Nat) (x11 : Int64) (x12 : Int32) (x13 : Int32) (h14 : zH) => zo_b (zo_gI h14 10 x10 2) (fun v15 => if (1000 : Int32) ≤ v15 then (j69_9 x10 x11 x12 h14) else (zo_b (zo_gR h14 10 x10 1) (fun v18 => zo_b (zo_gI h14 10 x10 2) (fun v20 => zo_b (zq_wrX 1 h14 v18 v20 x13) (fun h22 => zo_b (zo_gI h22 10 x10 2) (fun v24 => zo_b (zo_pI h22 10 x10 2 (v24 + (1 : Int32))) (fun h26 => j69_9 x10 x11 x12 h26)))))))) (fun j38_14 => if ((y2 >>> (y3.toInt64 &&& 63)).toInt32 &&& (255 : Int32)) = (10 : Int32) then (j38_14 y1 y2 y3 ((y2 >>> (y3.toInt64 &&& 63)).toInt32 &&& (255 : Int32)) h4) else (if ((y2 >>> (y3.toInt64 &&& 63)).toInt32 &&& (255 : Int32)) < (32 : Int32) then (j69_9 y1 y2 y3 h4) else (if (126 : Int32) < ((y2 >>> (y3.toInt64 &&& 63)).toInt32 &&& (255 : Int32)) then (j69_9 y1 y2 y3 h4) else (j38_14 y1 y2 y3 ((y2 >>> (y3.toInt64 &&& 63)).toInt32 &&& (255 : Int32)) h4))))))
set_option maxRecDepth 4000 in
def zm_lay (sc : zX) (a0 : Nat) (a1 : Int64) (h : zH) : Option (Unit × zH) := zm_lay_l3 sc zo_F a0 a1 (56 : Int32) h 
set_option maxRecDepth 4000 in
theorem zm_lay_l3_ok (sc : zX) (d : Nat) : ∀ (n : Nat) (y1 : Nat) (y2 : Int64) (y3 : Int32) (h4 : zH) (ro_ : Unit) (ho_ : zH),  zm_lay_l3 sc n y1 y2 y3 h4  = some (ro_, ho_) → zq_wp sc d 146 3 [some (.ref y1), some (.long y2), none, some (.int y3), none] [] h4 (none, ho_) := by
  intro n
  induction n with
  | zero => intro y1 y2 y3 h4 ro_ ho_ hf; cases hf
  | succ n ih =>
    intro y1 y2 y3 h4 ro_ ho_ hf
    refine zq_wg 1 (pc' := 4) (lv' := [some (.ref y1), some (.long y2), none, some (.int y3), none]) (st' := [.int y3]) (h' := h4) rfl ?_
    refine zr_if (y3 < 0) 75 7 (st' := []) rfl rfl (fun b5 => ?_) (fun b5 => ?_)
    · have hf := zo_t hf b5
      exact zr_rv rfl rfl hf
    · have hf := zo_f hf b5
      refine zq_wg 9 (pc' := 21) (lv' := [some (.ref y1), some (.long y2), none, some (.int y3), some (.int ((y2 >>> (y3.toInt64 &&& 63)).toInt32 &&& (255 : Int32)))]) (st' := [.int (10 : Int32), .int ((y2 >>> (y3.toInt64 &&& 63)).toInt32 &&& (255 : Int32))]) (h' := h4) rfl ?_
      obtain ⟨j69_9, hjj69_9, hf⟩ := zo_lj hf
      have kj69_9 : ∀ (x6 : Nat) (x7 : Int64) (x8 : Int32) (h9 : zH), j69_9 x6 x7 x8 h9 = some (ro_, ho_) → zq_wp sc d 146 69 [some (.ref x6), some (.long x7), none, some (.int x8), none] [] h9 (none, ho_) := by
        intro x6 x7 x8 h9 hf
        rw [hjj69_9] at hf
        refine zq_wg 2 (pc' := 3) (lv' := [some (.ref x6), some (.long x7), none, some (.int (x8 + (-8 : Int32))), none]) (st' := []) (h' := h9) rfl ?_
        exact ih x6 x7 (x8 + (-8 : Int32)) h9 _ _ hf
      obtain ⟨j38_14, hjj38_14, hf⟩ := zo_lj hf
      have kj38_14 : ∀ (x10 : Nat) (x11 : Int64) (x12 : Int32) (x13 : Int32) (h14 : zH), j38_14 x10 x11 x12 x13 h14 = some (ro_, ho_) → zq_wp sc d 146 38 [some (.ref x10), some (.long x11), none, some (.int x12), some (.int x13)] [] h14 (none, ho_) := by
        intro x10 x11 x12 x13 h14 hf
        rw [hjj38_14] at hf
        refine zq_wg 1 (pc' := 39) (lv' := [some (.ref x10), some (.long x11), none, some (.int x12), some (.int x13)]) (st' := [.ref x10]) (h' := h14) rfl ?_
        obtain ⟨v15, e16, hf⟩ := zo_b_s hf
        refine zr_gI rfl rfl (by decide) rfl e16 ?_
        refine zq_wg 1 (pc' := 45) (lv' := [some (.ref x10), some (.long x11), none, some (.int x12), some (.int x13)]) (st' := [.int (1000 : Int32), .int v15]) (h' := h14) rfl ?_
        refine zr_if ((1000 : Int32) ≤ v15) 69 48 (st' := []) rfl rfl (fun b17 => ?_) (fun b17 => ?_)
        · have hf := zo_t hf b17
          refine zq_fg [some (.ref x10), some (.long x11), none, some (.int x12), none] (zq_lvle_s (zq_lvle_s (zq_lvle_s (zq_lvle_s (zq_lvle_n zq_lvle_nil))))) ?_
          exact kj69_9 x10 x11 x12 h14 hf
        · have hf := zo_f hf b17
          refine zq_wg 1 (pc' := 49) (lv' := [some (.ref x10), some (.long x11), none, some (.int x12), some (.int x13)]) (st' := [.ref x10]) (h' := h14) rfl ?_
          obtain ⟨v18, e19, hf⟩ := zo_b_s hf
          refine zr_gR rfl rfl (by decide) rfl e19 ?_
          refine zq_wg 1 (pc' := 53) (lv' := [some (.ref x10), some (.long x11), none, some (.int x12), some (.int x13)]) (st' := [.ref x10, .ref v18]) (h' := h14) rfl ?_
          obtain ⟨v20, e21, hf⟩ := zo_b_s hf
          refine zr_gI rfl rfl (by decide) rfl e21 ?_
          refine zq_wg 1 (pc' := 58) (lv' := [some (.ref x10), some (.long x11), none, some (.int x12), some (.int x13)]) (st' := [.int x13, .int v20, .ref v18]) (h' := h14) rfl ?_
          obtain ⟨h22, e23, hf⟩ := zo_b_s hf
          refine zr_iast rfl e23 ?_
          refine zq_wg 2 (pc' := 61) (lv' := [some (.ref x10), some (.long x11), none, some (.int x12), some (.int x13)]) (st' := [.ref x10, .ref x10]) (h' := h22) rfl ?_
          obtain ⟨v24, e25, hf⟩ := zo_b_s hf
          refine zr_gI rfl rfl (by decide) rfl e25 ?_
          refine zq_wg 2 (pc' := 66) (lv' := [some (.ref x10), some (.long x11), none, some (.int x12), some (.int x13)]) (st' := [.int (v24 + (1 : Int32)), .ref x10]) (h' := h22) rfl ?_
          obtain ⟨h26, e27, hf⟩ := zo_b_s hf
          refine zr_pI rfl rfl (by decide) rfl rfl e27 ?_
          refine zq_fg [some (.ref x10), some (.long x11), none, some (.int x12), none] (zq_lvle_s (zq_lvle_s (zq_lvle_s (zq_lvle_s (zq_lvle_n zq_lvle_nil))))) ?_
          exact kj69_9 x10 x11 x12 h26 hf
      refine zr_if (((y2 >>> (y3.toInt64 &&& 63)).toInt32 &&& (255 : Int32)) = (10 : Int32)) 38 24 (st' := []) rfl rfl (fun b28 => ?_) (fun b28 => ?_)
      · have hf := zo_t hf b28
        exact kj38_14 y1 y2 y3 ((y2 >>> (y3.toInt64 &&& 63)).toInt32 &&& (255 : Int32)) h4 hf
      · have hf := zo_f hf b28
        refine zq_wg 2 (pc' := 28) (lv' := [some (.ref y1), some (.long y2), none, some (.int y3), some (.int ((y2 >>> (y3.toInt64 &&& 63)).toInt32 &&& (255 : Int32)))]) (st' := [.int (32 : Int32), .int ((y2 >>> (y3.toInt64 &&& 63)).toInt32 &&& (255 : Int32))]) (h' := h4) rfl ?_
        refine zr_if (((y2 >>> (y3.toInt64 &&& 63)).toInt32 &&& (255 : Int32)) < (32 : Int32)) 69 31 (st' := []) rfl rfl (fun b29 => ?_) (fun b29 => ?_)
        · have hf := zo_t hf b29
          refine zq_fg [some (.ref y1), some (.long y2), none, some (.int y3), none] (zq_lvle_s (zq_lvle_s (zq_lvle_s (zq_lvle_s (zq_lvle_n zq_lvle_nil))))) ?_
          exact kj69_9 y1 y2 y3 h4 hf
        · have hf := zo_f hf b29
          refine zq_wg 2 (pc' := 35) (lv' := [some (.ref y1), some (.long y2), none, some (.int y3), some (.int ((y2 >>> (y3.toInt64 &&& 63)).toInt32 &&& (255 : Int32)))]) (st' := [.int (126 : Int32), .int ((y2 >>> (y3.toInt64 &&& 63)).toInt32 &&& (255 : Int32))]) (h' := h4) rfl ?_
          refine zr_if ((126 : Int32) < ((y2 >>> (y3.toInt64 &&& 63)).toInt32 &&& (255 : Int32))) 69 38 (st' := []) rfl rfl (fun b30 => ?_) (fun b30 => ?_)
          · have hf := zo_t hf b30
            refine zq_fg [some (.ref y1), some (.long y2), none, some (.int y3), none] (zq_lvle_s (zq_lvle_s (zq_lvle_s (zq_lvle_s (zq_lvle_n zq_lvle_nil))))) ?_
            exact kj69_9 y1 y2 y3 h4 hf
          · have hf := zo_f hf b30
            exact kj38_14 y1 y2 y3 ((y2 >>> (y3.toInt64 &&& 63)).toInt32 &&& (255 : Int32)) h4 hf
set_option maxRecDepth 4000 in
theorem zm_lay_ok (sc : zX) (d : Nat) (hd : 0 ≤ d) {a0 : Nat} {a1 : Int64} {h : zH} {ro_ : Unit} {ho_ : zH} (hf : zm_lay sc a0 a1 h = some (ro_, ho_)) : zq_wm sc d 146 [.ref a0, .long a1] h (none, ho_) := by
  unfold zm_lay at hf
  show zq_wp sc d 146 0 [some (.ref a0), some (.long a1), none, none, none] [] h _
  refine zq_wg 2 (pc' := 3) (lv' := [some (.ref a0), some (.long a1), none, some (.int (56 : Int32)), none]) (st' := []) (h' := h) rfl ?_
  refine zm_lay_l3_ok sc d zo_F a0 a1 (56 : Int32) h _ _ hf
set_option maxRecDepth 4000 in
def zm_feed (sc : zX) (a0 : Nat) (a1 : Int64) (a2 : Int64) (a3 : Int64) (h : zH) : Option (Int32 × zH) := zo_b (zo_pI h 10 a0 0 (0 : Int32)) (fun h1 => zo_v h1 a0 10 (zm_lay sc a0 a1 h1) (fun w4 h3 => zo_v h3 a0 10 (zm_lay sc a0 a2 h3) (fun w8 h7 => zo_v h7 a0 10 (zm_lay sc a0 a3 h7) (fun w12 h11 => zo_b (zo_gI h11 10 a0 2) (fun v15 => some (v15, h11))))))
set_option maxRecDepth 4000 in
theorem zm_feed_ok (sc : zX) (d : Nat) (hd : 1 ≤ d) {a0 : Nat} {a1 : Int64} {a2 : Int64} {a3 : Int64} {h : zH} {ro_ : Int32} {ho_ : zH} (hf : zm_feed sc a0 a1 a2 a3 h = some (ro_, ho_)) : zq_wm sc d 145 [.ref a0, .long a1, .long a2, .long a3] h (some (.int ro_), ho_) := by
  unfold zm_feed at hf
  obtain ⟨d, rfl⟩ : ∃ d', d = d' + 1 := ⟨d - 1, by omega⟩
  have hd : 0 ≤ d := by omega
  show zq_wp sc (d + 1) 145 0 [some (.ref a0), some (.long a1), none, some (.long a2), none, some (.long a3), none] [] h _
  refine zq_wg 2 (pc' := 2) (lv' := [some (.ref a0), some (.long a1), none, some (.long a2), none, some (.long a3), none]) (st' := [.int (0 : Int32), .ref a0]) (h' := h) rfl ?_
  obtain ⟨h1, e2, hf⟩ := zo_b_s hf
  refine zr_pI rfl rfl (by decide) rfl rfl e2 ?_
  refine zq_wg 2 (pc' := 7) (lv' := [some (.ref a0), some (.long a1), none, some (.long a2), none, some (.long a3), none]) (st' := [.long a1, .ref a0]) (h' := h1) rfl ?_
  obtain ⟨e6, w4, h3, e5, hf⟩ := zo_v_s hf
  refine zr_cv zq_m146 [.long a1] [] rfl rfl rfl rfl rfl (Nat.le_of_ble_eq_true rfl) (Nat.le_of_ble_eq_true rfl) e6 (zm_lay_ok sc d (by omega) e5) ?_
  refine zq_wg 0 (pc' := 10) (lv' := [some (.ref a0), some (.long a1), none, some (.long a2), none, some (.long a3), none]) (st' := []) (h' := h3) rfl ?_
  refine zq_wg 2 (pc' := 12) (lv' := [some (.ref a0), some (.long a1), none, some (.long a2), none, some (.long a3), none]) (st' := [.long a2, .ref a0]) (h' := h3) rfl ?_
  obtain ⟨e10, w8, h7, e9, hf⟩ := zo_v_s hf
  refine zr_cv zq_m146 [.long a2] [] rfl rfl rfl rfl rfl (Nat.le_of_ble_eq_true rfl) (Nat.le_of_ble_eq_true rfl) e10 (zm_lay_ok sc d (by omega) e9) ?_
  refine zq_wg 0 (pc' := 15) (lv' := [some (.ref a0), some (.long a1), none, some (.long a2), none, some (.long a3), none]) (st' := []) (h' := h7) rfl ?_
  refine zq_wg 2 (pc' := 18) (lv' := [some (.ref a0), some (.long a1), none, some (.long a2), none, some (.long a3), none]) (st' := [.long a3, .ref a0]) (h' := h7) rfl ?_
  obtain ⟨e14, w12, h11, e13, hf⟩ := zo_v_s hf
  refine zr_cv zq_m146 [.long a3] [] rfl rfl rfl rfl rfl (Nat.le_of_ble_eq_true rfl) (Nat.le_of_ble_eq_true rfl) e14 (zm_lay_ok sc d (by omega) e13) ?_
  refine zq_wg 0 (pc' := 21) (lv' := [some (.ref a0), some (.long a1), none, some (.long a2), none, some (.long a3), none]) (st' := []) (h' := h11) rfl ?_
  refine zq_wg 1 (pc' := 22) (lv' := [some (.ref a0), some (.long a1), none, some (.long a2), none, some (.long a3), none]) (st' := [.ref a0]) (h' := h11) rfl ?_
  obtain ⟨v15, e16, hf⟩ := zo_b_s hf
  refine zr_gI rfl rfl (by decide) rfl e16 ?_
  exact zr_ri rfl rfl rfl hf
set_option maxRecDepth 4000 in
def zm_standsAsAlways_l2 (sc : zX) : Nat → Nat → Int32 → Int32 → zH → (Nat → Int32 → zH → Option (Unit × zH)) → Option (Unit × zH)
  | 0, _, _, _, _, _ => none
  | n + 1, y1, y2, y3, h4, k23 => if (50 : Int32) ≤ y3 then (k23 y1 y2 h4) else (zo_b (zo_gR h4 10 y1 10) (fun v6 => zo_b (zq_wrX 1 h4 v6 (y2 + y3) (0 : Int32)) (fun h8 => zm_standsAsAlways_l2 sc n y1 y2 (y3 + (1 : Int32)) h8 k23)))
set_option maxRecDepth 4000 in
def zm_standsAsAlways_l74 (sc : zX) : Nat → Nat → Int32 → Int32 → zH → Option (Unit × zH)
  | 0, _, _, _, _ => none
  | n + 1, y33, y34, y35, h36 => if (3 : Int32) ≤ y35 then (some ((), h36)) else (zo_b (zo_gR h36 10 y33 10) (fun v38 => zo_b (zq_wrX 1 h36 v38 ((y34 + (7 : Int32)) + y35) (-1 : Int32)) (fun h40 => zm_standsAsAlways_l74 sc n y33 y34 (y35 + (1 : Int32)) h40 )))
set_option maxRecDepth 4000 in
def zm_standsAsAlways (sc : zX) (a0 : Nat) (a1 : Int32) (h : zH) : Option (Unit × zH) := zm_standsAsAlways_l2 sc zo_F a0 a1 (0 : Int32) h (fun (x10 : Nat) (x11 : Int32) (h12 : zH) => zo_b (zo_gR h12 10 x10 10) (fun v13 => zo_b (zq_wrX 1 h12 v13 (x11 + (2 : Int32)) (10 : Int32)) (fun h15 => zo_b (zo_gR h15 10 x10 10) (fun v17 => zo_b (zq_wrX 1 h15 v17 (x11 + (3 : Int32)) (5 : Int32)) (fun h19 => zo_b (zo_gR h19 10 x10 10) (fun v21 => zo_b (zq_wrX 1 h19 v21 (x11 + (4 : Int32)) (20 : Int32)) (fun h23 => zo_b (zo_gR h23 10 x10 10) (fun v25 => zo_b (zq_wrX 1 h23 v25 (x11 + (5 : Int32)) (13 : Int32)) (fun h27 => zo_b (zo_gR h27 10 x10 10) (fun v29 => zo_b (zq_wrX 1 h27 v29 (x11 + (6 : Int32)) (3 : Int32)) (fun h31 => zm_standsAsAlways_l74 sc zo_F x10 x11 (0 : Int32) h31 )))))))))))
set_option maxRecDepth 4000 in
theorem zm_standsAsAlways_l2_ok (sc : zX) (d : Nat) : ∀ (n : Nat) (y1 : Nat) (y2 : Int32) (y3 : Int32) (h4 : zH) (k23 : Nat → Int32 → zH → Option (Unit × zH)) (ro_ : Unit) (ho_ : zH), (∀ (z0 : Nat) (z1 : Int32) (hz : zH), k23 z0 z1 hz = some (ro_, ho_) → zq_wp sc d 148 23 [some (.ref z0), some (.int z1), none] [] hz (none, ho_)) → zm_standsAsAlways_l2 sc n y1 y2 y3 h4 k23 = some (ro_, ho_) → zq_wp sc d 148 2 [some (.ref y1), some (.int y2), some (.int y3)] [] h4 (none, ho_) := by
  intro n
  induction n with
  | zero => intro y1 y2 y3 h4 k23 ro_ ho_ hk23 hf; cases hf
  | succ n ih =>
    intro y1 y2 y3 h4 k23 ro_ ho_ hk23 hf
    refine zq_wg 2 (pc' := 5) (lv' := [some (.ref y1), some (.int y2), some (.int y3)]) (st' := [.int (50 : Int32), .int y3]) (h' := h4) rfl ?_
    refine zr_if ((50 : Int32) ≤ y3) 23 8 (st' := []) rfl rfl (fun b5 => ?_) (fun b5 => ?_)
    · have hf := zo_t hf b5
      refine zq_fg [some (.ref y1), some (.int y2), none] (zq_lvle_s (zq_lvle_s (zq_lvle_n zq_lvle_nil))) ?_
      exact hk23 y1 y2 h4 hf
    · have hf := zo_f hf b5
      refine zq_wg 1 (pc' := 9) (lv' := [some (.ref y1), some (.int y2), some (.int y3)]) (st' := [.ref y1]) (h' := h4) rfl ?_
      obtain ⟨v6, e7, hf⟩ := zo_b_s hf
      refine zr_gR rfl rfl (by decide) rfl e7 ?_
      refine zq_wg 4 (pc' := 16) (lv' := [some (.ref y1), some (.int y2), some (.int y3)]) (st' := [.int (0 : Int32), .int (y2 + y3), .ref v6]) (h' := h4) rfl ?_
      obtain ⟨h8, e9, hf⟩ := zo_b_s hf
      refine zr_iast rfl e9 ?_
      refine zq_wg 2 (pc' := 2) (lv' := [some (.ref y1), some (.int y2), some (.int (y3 + (1 : Int32)))]) (st' := []) (h' := h8) rfl ?_
      exact ih y1 y2 (y3 + (1 : Int32)) h8 _ _ _ hk23 hf
set_option maxRecDepth 4000 in
theorem zm_standsAsAlways_l74_ok (sc : zX) (d : Nat) : ∀ (n : Nat) (y33 : Nat) (y34 : Int32) (y35 : Int32) (h36 : zH) (ro_ : Unit) (ho_ : zH),  zm_standsAsAlways_l74 sc n y33 y34 y35 h36  = some (ro_, ho_) → zq_wp sc d 148 74 [some (.ref y33), some (.int y34), some (.int y35)] [] h36 (none, ho_) := by
  intro n
  induction n with
  | zero => intro y33 y34 y35 h36 ro_ ho_ hf; cases hf
  | succ n ih =>
    intro y33 y34 y35 h36 ro_ ho_ hf
    refine zq_wg 2 (pc' := 76) (lv' := [some (.ref y33), some (.int y34), some (.int y35)]) (st' := [.int (3 : Int32), .int y35]) (h' := h36) rfl ?_
    refine zr_if ((3 : Int32) ≤ y35) 97 79 (st' := []) rfl rfl (fun b37 => ?_) (fun b37 => ?_)
    · have hf := zo_t hf b37
      exact zr_rv rfl rfl hf
    · have hf := zo_f hf b37
      refine zq_wg 1 (pc' := 80) (lv' := [some (.ref y33), some (.int y34), some (.int y35)]) (st' := [.ref y33]) (h' := h36) rfl ?_
      obtain ⟨v38, e39, hf⟩ := zo_b_s hf
      refine zr_gR rfl rfl (by decide) rfl e39 ?_
      refine zq_wg 6 (pc' := 90) (lv' := [some (.ref y33), some (.int y34), some (.int y35)]) (st' := [.int (-1 : Int32), .int ((y34 + (7 : Int32)) + y35), .ref v38]) (h' := h36) rfl ?_
      obtain ⟨h40, e41, hf⟩ := zo_b_s hf
      refine zr_iast rfl e41 ?_
      refine zq_wg 2 (pc' := 74) (lv' := [some (.ref y33), some (.int y34), some (.int (y35 + (1 : Int32)))]) (st' := []) (h' := h40) rfl ?_
      exact ih y33 y34 (y35 + (1 : Int32)) h40 _ _ hf
set_option maxRecDepth 4000 in
theorem zm_standsAsAlways_ok (sc : zX) (d : Nat) (hd : 0 ≤ d) {a0 : Nat} {a1 : Int32} {h : zH} {ro_ : Unit} {ho_ : zH} (hf : zm_standsAsAlways sc a0 a1 h = some (ro_, ho_)) : zq_wm sc d 148 [.ref a0, .int a1] h (none, ho_) := by
  unfold zm_standsAsAlways at hf
  show zq_wp sc d 148 0 [some (.ref a0), some (.int a1), none] [] h _
  refine zq_wg 2 (pc' := 2) (lv' := [some (.ref a0), some (.int a1), some (.int (0 : Int32))]) (st' := []) (h' := h) rfl ?_
  refine zm_standsAsAlways_l2_ok sc d zo_F a0 a1 (0 : Int32) h _ _ _ ?_ hf
  · intro x10 x11 h12 hf
    refine zq_wg 1 (pc' := 24) (lv' := [some (.ref x10), some (.int x11), none]) (st' := [.ref x10]) (h' := h12) rfl ?_
    obtain ⟨v13, e14, hf⟩ := zo_b_s hf
    refine zr_gR rfl rfl (by decide) rfl e14 ?_
    refine zq_wg 4 (pc' := 32) (lv' := [some (.ref x10), some (.int x11), none]) (st' := [.int (10 : Int32), .int (x11 + (2 : Int32)), .ref v13]) (h' := h12) rfl ?_
    obtain ⟨h15, e16, hf⟩ := zo_b_s hf
    refine zr_iast rfl e16 ?_
    refine zq_wg 1 (pc' := 34) (lv' := [some (.ref x10), some (.int x11), none]) (st' := [.ref x10]) (h' := h15) rfl ?_
    obtain ⟨v17, e18, hf⟩ := zo_b_s hf
    refine zr_gR rfl rfl (by decide) rfl e18 ?_
    refine zq_wg 4 (pc' := 41) (lv' := [some (.ref x10), some (.int x11), none]) (st' := [.int (5 : Int32), .int (x11 + (3 : Int32)), .ref v17]) (h' := h15) rfl ?_
    obtain ⟨h19, e20, hf⟩ := zo_b_s hf
    refine zr_iast rfl e20 ?_
    refine zq_wg 1 (pc' := 43) (lv' := [some (.ref x10), some (.int x11), none]) (st' := [.ref x10]) (h' := h19) rfl ?_
    obtain ⟨v21, e22, hf⟩ := zo_b_s hf
    refine zr_gR rfl rfl (by decide) rfl e22 ?_
    refine zq_wg 4 (pc' := 51) (lv' := [some (.ref x10), some (.int x11), none]) (st' := [.int (20 : Int32), .int (x11 + (4 : Int32)), .ref v21]) (h' := h19) rfl ?_
    obtain ⟨h23, e24, hf⟩ := zo_b_s hf
    refine zr_iast rfl e24 ?_
    refine zq_wg 1 (pc' := 53) (lv' := [some (.ref x10), some (.int x11), none]) (st' := [.ref x10]) (h' := h23) rfl ?_
    obtain ⟨v25, e26, hf⟩ := zo_b_s hf
    refine zr_gR rfl rfl (by decide) rfl e26 ?_
    refine zq_wg 4 (pc' := 61) (lv' := [some (.ref x10), some (.int x11), none]) (st' := [.int (13 : Int32), .int (x11 + (5 : Int32)), .ref v25]) (h' := h23) rfl ?_
    obtain ⟨h27, e28, hf⟩ := zo_b_s hf
    refine zr_iast rfl e28 ?_
    refine zq_wg 1 (pc' := 63) (lv' := [some (.ref x10), some (.int x11), none]) (st' := [.ref x10]) (h' := h27) rfl ?_
    obtain ⟨v29, e30, hf⟩ := zo_b_s hf
    refine zr_gR rfl rfl (by decide) rfl e30 ?_
    refine zq_wg 4 (pc' := 71) (lv' := [some (.ref x10), some (.int x11), none]) (st' := [.int (3 : Int32), .int (x11 + (6 : Int32)), .ref v29]) (h' := h27) rfl ?_
    obtain ⟨h31, e32, hf⟩ := zo_b_s hf
    refine zr_iast rfl e32 ?_
    refine zq_wg 2 (pc' := 74) (lv' := [some (.ref x10), some (.int x11), some (.int (0 : Int32))]) (st' := []) (h' := h31) rfl ?_
    refine zm_standsAsAlways_l74_ok sc d zo_F x10 x11 (0 : Int32) h31 _ _ hf
