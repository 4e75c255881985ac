/-! methods as functions, and their walks; printed by wip/whole/decomp.py -/
set_option maxRecDepth 4000 in
def zx_put (sc : zX) (a0 : Nat) (a1 : Int32) (a2 : Int32) (h : zH) : Option (Unit × zH) := if a1 < 0 then (some ((), h)) else (zo_b (zq_len sc h a0) (fun v2 => if v2 ≤ a1 then (some ((), h)) else (zo_b (zq_wrX 1 h a0 a1 a2) (fun h5 => some ((), h5)))))
set_option maxRecDepth 4000 in
theorem zx_put_ok (sc : zX) (d : Nat) (hd : 0 ≤ d) {a0 : Nat} {a1 : Int32} {a2 : Int32} {h : zH} {ro_ : Unit} {ho_ : zH} (hf : zx_put sc a0 a1 a2 h = some (ro_, ho_)) : zq_wm sc d 11 [.ref a0, .int a1, .int a2] h (none, ho_) := by
  unfold zx_put at hf
  show zq_wp sc d 11 0 [some (.ref a0), some (.int a1), some (.int a2)] [] h _
  refine zq_wg 1 (pc' := 1) (lv' := [some (.ref a0), some (.int a1), some (.int a2)]) (st' := [.int a1]) (h' := h) rfl ?_
  refine zr_if (a1 < 0) 14 4 (st' := []) rfl rfl (fun b1 => ?_) (fun b1 => ?_)
  · have hf := zo_t hf b1
    exact zr_rv rfl rfl hf
  · have hf := zo_f hf b1
    refine zq_wg 2 (pc' := 6) (lv' := [some (.ref a0), some (.int a1), some (.int a2)]) (st' := [.ref a0, .int a1]) (h' := h) rfl ?_
    obtain ⟨v2, e3, hf⟩ := zo_b_s hf
    refine zr_alen rfl e3 ?_
    refine zr_if (v2 ≤ a1) 14 10 (st' := []) rfl rfl (fun b4 => ?_) (fun b4 => ?_)
    · have hf := zo_t hf b4
      exact zr_rv rfl rfl hf
    · have hf := zo_f hf b4
      refine zq_wg 3 (pc' := 13) (lv' := [some (.ref a0), some (.int a1), some (.int a2)]) (st' := [.int a2, .int a1, .ref a0]) (h' := h) rfl ?_
      obtain ⟨h5, e6, hf⟩ := zo_b_s hf
      refine zr_iast rfl e6 ?_
      exact zr_rv rfl rfl hf
set_option maxRecDepth 4000 in
def zx_at (sc : zX) (a0 : Nat) (a1 : Int32) (h : zH) : Option (Int32 × zH) := if a1 < 0 then (some ((0 : Int32), h)) else (zo_b (zq_len sc h a0) (fun v2 => if v2 ≤ a1 then (some ((0 : Int32), h)) else (zo_b (zq_rdI sc h a0 a1) (fun v5 => some (v5, h)))))
set_option maxRecDepth 4000 in
theorem zx_at_ok (sc : zX) (d : Nat) (hd : 0 ≤ d) {a0 : Nat} {a1 : Int32} {h : zH} {ro_ : Int32} {ho_ : zH} (hf : zx_at sc a0 a1 h = some (ro_, ho_)) : zq_wm sc d 12 [.ref a0, .int a1] h (some (.int ro_), ho_) := by
  unfold zx_at at hf
  show zq_wp sc d 12 0 [some (.ref a0), some (.int a1)] [] h _
  refine zq_wg 1 (pc' := 1) (lv' := [some (.ref a0), some (.int a1)]) (st' := [.int a1]) (h' := h) rfl ?_
  refine zr_if (a1 < 0) 16 4 (st' := []) rfl rfl (fun b1 => ?_) (fun b1 => ?_)
  · have hf := zo_t hf b1
    refine zq_wg 1 (pc' := 17) (lv' := [some (.ref a0), some (.int a1)]) (st' := [.int (0 : Int32)]) (h' := h) rfl ?_
    exact zr_ri rfl rfl rfl hf
  · have hf := zo_f hf b1
    refine zq_wg 2 (pc' := 6) (lv' := [some (.ref a0), some (.int a1)]) (st' := [.ref a0, .int a1]) (h' := h) rfl ?_
    obtain ⟨v2, e3, hf⟩ := zo_b_s hf
    refine zr_alen rfl e3 ?_
    refine zr_if (v2 ≤ a1) 16 10 (st' := []) rfl rfl (fun b4 => ?_) (fun b4 => ?_)
    · have hf := zo_t hf b4
      refine zq_wg 1 (pc' := 17) (lv' := [some (.ref a0), some (.int a1)]) (st' := [.int (0 : Int32)]) (h' := h) rfl ?_
      exact zr_ri rfl rfl rfl hf
    · have hf := zo_f hf b4
      refine zq_wg 2 (pc' := 12) (lv' := [some (.ref a0), some (.int a1)]) (st' := [.int a1, .ref a0]) (h' := h) rfl ?_
      obtain ⟨v5, e6, hf⟩ := zo_b_s hf
      refine zr_iald rfl e6 ?_
      refine zq_wg 1 (pc' := 17) (lv' := [some (.ref a0), some (.int a1)]) (st' := [.int v5]) (h' := h) rfl ?_
      exact zr_ri rfl rfl rfl hf
set_option maxRecDepth 4000 in
def zx_State_begin_l2 (sc : zX) : Nat → Nat → Nat → Int32 → zH → (Nat → Nat → zH → Option (Unit × zH)) → Option (Unit × zH)
  | 0, _, _, _, _, _ => none
  | n + 1, y1, y2, y3, h4, k71 => if (6 : Int32) ≤ y3 then (k71 y1 y2 h4) else (zo_b (zo_gR h4 4 y1 0) (fun v6 => zo_b (zo_gI h4 0 y2 0) (fun v8 => zo_l (fun (x10 : Nat) (x11 : Nat) (x12 : Int32) (x13 : Nat) (x14 : Int32) (x15 : Int32) (h16 : zH) => zo_c (zx_put sc x13 x14 x15 h16) (fun w18 h17 => zo_b (zo_gR h17 4 x10 1) (fun v20 => zo_b (zo_gI h17 0 x11 1) (fun v22 => zo_l (fun (x24 : Nat) (x25 : Nat) (x26 : Int32) (x27 : Nat) (x28 : Int32) (x29 : Int32) (h30 : zH) => zo_c (zx_put sc x27 x28 x29 h30) (fun w32 h31 => zx_State_begin_l2 sc n x24 x25 (x26 + (1 : Int32)) h31 k71)) (fun j62_30 => if v22 ≤ x12 then (j62_30 x10 x11 x12 v20 x12 (0 : Int32) h17) else (zo_b (zo_gR h17 0 x11 12) (fun v35 => zo_c (zx_at sc v35 x12 h17) (fun v38 h37 => j62_30 x10 x11 x12 v20 x12 v38 h37)))))))) (fun j34_16 => zo_l (fun (x40 : Nat) (x41 : Nat) (x42 : Int32) (x43 : Nat) (x44 : Int32) (h45 : zH) => j34_16 x40 x41 x42 x43 x44 (-1 : Int32) h45) (fun j33_45 => if v8 ≤ y3 then (j33_45 y1 y2 y3 v6 y3 h4) else (zo_b (zo_gI h4 0 y2 1) (fun v47 => if v47 ≤ y3 then (j33_45 y1 y2 y3 v6 y3 h4) else (j34_16 y1 y2 y3 v6 y3 y3 h4))))))))
set_option maxRecDepth 4000 in
def zx_State_begin (sc : zX) (a0 : Nat) (a1 : Nat) (h : zH) : Option (Unit × zH) := zx_State_begin_l2 sc zo_F a0 a1 (0 : Int32) h (fun (x50 : Nat) (x51 : Nat) (h52 : zH) => zo_b (zo_pI h52 4 x50 2 (0 : Int32)) (fun h53 => zo_b (zo_gI h53 0 x51 3) (fun v55 => zo_b (zo_pI h53 4 x50 3 v55) (fun h57 => zo_b (zo_pI h57 4 x50 4 (0 : Int32)) (fun h59 => zo_b (zo_pB h59 4 x50 5 (0 : Int32)) (fun h61 => some ((), h61)))))))
set_option maxRecDepth 4000 in
theorem zx_State_begin_l2_ok (sc : zX) (d : Nat) (hd : 0 ≤ d) : ∀ (n : Nat) (y1 : Nat) (y2 : Nat) (y3 : Int32) (h4 : zH) (k71 : Nat → Nat → zH → Option (Unit × zH)) (ro_ : Unit) (ho_ : zH), (∀ (z0 : Nat) (z1 : Nat) (hz : zH), k71 z0 z1 hz = some (ro_, ho_) → zq_wp sc (d + 1) 10 71 [some (.ref z0), some (.ref z1), none] [] hz (none, ho_)) → zx_State_begin_l2 sc n y1 y2 y3 h4 k71 = some (ro_, ho_) → zq_wp sc (d + 1) 10 2 [some (.ref y1), some (.ref y2), some (.int y3)] [] h4 (none, ho_) := by
  intro n
  induction n with
  | zero => intro y1 y2 y3 h4 k71 ro_ ho_ hk71 hf; cases hf
  | succ n ih =>
    intro y1 y2 y3 h4 k71 ro_ ho_ hk71 hf
    refine zq_wg 2 (pc' := 5) (lv' := [some (.ref y1), some (.ref y2), some (.int y3)]) (st' := [.int (6 : Int32), .int y3]) (h' := h4) rfl ?_
    refine zr_if ((6 : Int32) ≤ y3) 71 8 (st' := []) rfl rfl (fun b5 => ?_) (fun b5 => ?_)
    · have hf := zo_t hf b5
      refine zq_fg [some (.ref y1), some (.ref y2), none] (zq_lvle_s (zq_lvle_s (zq_lvle_n zq_lvle_nil))) ?_
      exact hk71 y1 y2 h4 hf
    · have hf := zo_f hf b5
      refine zq_wg 1 (pc' := 9) (lv' := [some (.ref y1), some (.ref y2), some (.int y3)]) (st' := [.ref y1]) (h' := h4) rfl ?_
      obtain ⟨v6, e7, hf⟩ := zo_b_s hf
      refine zr_gR rfl rfl (by decide) rfl e7 ?_
      refine zq_wg 3 (pc' := 15) (lv' := [some (.ref y1), some (.ref y2), some (.int y3)]) (st' := [.ref y2, .int y3, .int y3, .ref v6]) (h' := h4) rfl ?_
      obtain ⟨v8, e9, hf⟩ := zo_b_s hf
      refine zr_gI rfl rfl (by decide) rfl e9 ?_
      obtain ⟨j34_16, hjj34_16, hf⟩ := zo_lj hf
      have kj34_16 : ∀ (x10 : Nat) (x11 : Nat) (x12 : Int32) (x13 : Nat) (x14 : Int32) (x15 : Int32) (h16 : zH), j34_16 x10 x11 x12 x13 x14 x15 h16 = some (ro_, ho_) → zq_wp sc (d + 1) 10 34 [some (.ref x10), some (.ref x11), some (.int x12)] [.int x15, .int x14, .ref x13] h16 (none, ho_) := by
        intro x10 x11 x12 x13 x14 x15 h16 hf
        rw [hjj34_16] at hf
        obtain ⟨w18, h17, e19, hf⟩ := zo_c_s hf
        refine zr_cs zq_m11 [.ref x13, .int x14, .int x15] [] rfl rfl (by decide) rfl rfl rfl (Nat.le_of_ble_eq_true rfl) (Nat.le_of_ble_eq_true rfl) (zx_put_ok sc d (by omega) e19) ?_
        refine zq_wg 0 (pc' := 37) (lv' := [some (.ref x10), some (.ref x11), some (.int x12)]) (st' := []) (h' := h17) rfl ?_
        refine zq_wg 1 (pc' := 38) (lv' := [some (.ref x10), some (.ref x11), some (.int x12)]) (st' := [.ref x10]) (h' := h17) rfl ?_
        obtain ⟨v20, e21, hf⟩ := zo_b_s hf
        refine zr_gR rfl rfl (by decide) rfl e21 ?_
        refine zq_wg 3 (pc' := 44) (lv' := [some (.ref x10), some (.ref x11), some (.int x12)]) (st' := [.ref x11, .int x12, .int x12, .ref v20]) (h' := h17) rfl ?_
        obtain ⟨v22, e23, hf⟩ := zo_b_s hf
        refine zr_gI rfl rfl (by decide) rfl e23 ?_
        obtain ⟨j62_30, hjj62_30, hf⟩ := zo_lj hf
        have kj62_30 : ∀ (x24 : Nat) (x25 : Nat) (x26 : Int32) (x27 : Nat) (x28 : Int32) (x29 : Int32) (h30 : zH), j62_30 x24 x25 x26 x27 x28 x29 h30 = some (ro_, ho_) → zq_wp sc (d + 1) 10 62 [some (.ref x24), some (.ref x25), some (.int x26)] [.int x29, .int x28, .ref x27] h30 (none, ho_) := by
          intro x24 x25 x26 x27 x28 x29 h30 hf
          rw [hjj62_30] at hf
          obtain ⟨w32, h31, e33, hf⟩ := zo_c_s hf
          refine zr_cs zq_m11 [.ref x27, .int x28, .int x29] [] rfl rfl (by decide) rfl rfl rfl (Nat.le_of_ble_eq_true rfl) (Nat.le_of_ble_eq_true rfl) (zx_put_ok sc d (by omega) e33) ?_
          refine zq_wg 0 (pc' := 65) (lv' := [some (.ref x24), some (.ref x25), some (.int x26)]) (st' := []) (h' := h31) rfl ?_
          refine zq_wg 2 (pc' := 2) (lv' := [some (.ref x24), some (.ref x25), some (.int (x26 + (1 : Int32)))]) (st' := []) (h' := h31) rfl ?_
          exact ih x24 x25 (x26 + (1 : Int32)) h31 _ _ _ hk71 hf
        refine zr_if (v22 ≤ x12) 61 50 (st' := [.int x12, .ref v20]) rfl rfl (fun b34 => ?_) (fun b34 => ?_)
        · have hf := zo_t hf b34
          refine zq_wg 1 (pc' := 62) (lv' := [some (.ref x10), some (.ref x11), some (.int x12)]) (st' := [.int (0 : Int32), .int x12, .ref v20]) (h' := h17) rfl ?_
          exact kj62_30 x10 x11 x12 v20 x12 (0 : Int32) h17 hf
        · have hf := zo_f hf b34
          refine zq_wg 1 (pc' := 51) (lv' := [some (.ref x10), some (.ref x11), some (.int x12)]) (st' := [.ref x11, .int x12, .ref v20]) (h' := h17) rfl ?_
          obtain ⟨v35, e36, hf⟩ := zo_b_s hf
          refine zr_gR rfl rfl (by decide) rfl e36 ?_
          refine zq_wg 1 (pc' := 55) (lv' := [some (.ref x10), some (.ref x11), some (.int x12)]) (st' := [.int x12, .ref v35, .int x12, .ref v20]) (h' := h17) rfl ?_
          obtain ⟨v38, h37, e39, hf⟩ := zo_c_s hf
          refine zr_cs zq_m12 [.ref v35, .int x12] [.int x12, .ref v20] rfl rfl (by decide) rfl rfl rfl (Nat.le_of_ble_eq_true rfl) (Nat.le_of_ble_eq_true rfl) (zx_at_ok sc d (by omega) e39) ?_
          refine zq_wg 0 (pc' := 58) (lv' := [some (.ref x10), some (.ref x11), some (.int x12)]) (st' := [.int v38, .int x12, .ref v20]) (h' := h37) rfl ?_
          refine zq_wg 1 (pc' := 62) (lv' := [some (.ref x10), some (.ref x11), some (.int x12)]) (st' := [.int v38, .int x12, .ref v20]) (h' := h37) rfl ?_
          exact kj62_30 x10 x11 x12 v20 x12 v38 h37 hf
      obtain ⟨j33_45, hjj33_45, hf⟩ := zo_lj hf
      have kj33_45 : ∀ (x40 : Nat) (x41 : Nat) (x42 : Int32) (x43 : Nat) (x44 : Int32) (h45 : zH), j33_45 x40 x41 x42 x43 x44 h45 = some (ro_, ho_) → zq_wp sc (d + 1) 10 33 [some (.ref x40), some (.ref x41), some (.int x42)] [.int x44, .ref x43] h45 (none, ho_) := by
        intro x40 x41 x42 x43 x44 h45 hf
        rw [hjj33_45] at hf
        refine zq_wg 1 (pc' := 34) (lv' := [some (.ref x40), some (.ref x41), some (.int x42)]) (st' := [.int (-1 : Int32), .int x44, .ref x43]) (h' := h45) rfl ?_
        exact kj34_16 x40 x41 x42 x43 x44 (-1 : Int32) h45 hf
      refine zr_if (v8 ≤ y3) 33 21 (st' := [.int y3, .ref v6]) rfl rfl (fun b46 => ?_) (fun b46 => ?_)
      · have hf := zo_t hf b46
        exact kj33_45 y1 y2 y3 v6 y3 h4 hf
      · have hf := zo_f hf b46
        refine zq_wg 2 (pc' := 23) (lv' := [some (.ref y1), some (.ref y2), some (.int y3)]) (st' := [.ref y2, .int y3, .int y3, .ref v6]) (h' := h4) rfl ?_
        obtain ⟨v47, e48, hf⟩ := zo_b_s hf
        refine zr_gI rfl rfl (by decide) rfl e48 ?_
        refine zr_if (v47 ≤ y3) 33 29 (st' := [.int y3, .ref v6]) rfl rfl (fun b49 => ?_) (fun b49 => ?_)
        · have hf := zo_t hf b49
          exact kj33_45 y1 y2 y3 v6 y3 h4 hf
        · have hf := zo_f hf b49
          refine zq_wg 2 (pc' := 34) (lv' := [some (.ref y1), some (.ref y2), some (.int y3)]) (st' := [.int y3, .int y3, .ref v6]) (h' := h4) rfl ?_
          exact kj34_16 y1 y2 y3 v6 y3 y3 h4 hf
set_option maxRecDepth 4000 in
theorem zx_State_begin_ok (sc : zX) (d : Nat) (hd : 1 ≤ d) {a0 : Nat} {a1 : Nat} {h : zH} {ro_ : Unit} {ho_ : zH} (hf : zx_State_begin sc a0 a1 h = some (ro_, ho_)) : zq_wm sc d 10 [.ref a0, .ref a1] h (none, ho_) := by
  unfold zx_State_begin at hf
  obtain ⟨d, rfl⟩ : ∃ d', d = d' + 1 := ⟨d - 1, by omega⟩
  have hd : 0 ≤ d := by omega
  show zq_wp sc (d + 1) 10 0 [some (.ref a0), some (.ref a1), none] [] h _
  refine zq_wg 2 (pc' := 2) (lv' := [some (.ref a0), some (.ref a1), some (.int (0 : Int32))]) (st' := []) (h' := h) rfl ?_
  refine zx_State_begin_l2_ok sc d hd zo_F a0 a1 (0 : Int32) h _ _ _ ?_ hf
  · intro x50 x51 h52 hf
    refine zq_wg 2 (pc' := 73) (lv' := [some (.ref x50), some (.ref x51), none]) (st' := [.int (0 : Int32), .ref x50]) (h' := h52) rfl ?_
    obtain ⟨h53, e54, hf⟩ := zo_b_s hf
    refine zr_pI rfl rfl (by decide) rfl rfl e54 ?_
    refine zq_wg 2 (pc' := 78) (lv' := [some (.ref x50), some (.ref x51), none]) (st' := [.ref x51, .ref x50]) (h' := h53) rfl ?_
    obtain ⟨v55, e56, hf⟩ := zo_b_s hf
    refine zr_gI rfl rfl (by decide) rfl e56 ?_
    obtain ⟨h57, e58, hf⟩ := zo_b_s hf
    refine zr_pI rfl rfl (by decide) rfl rfl e58 ?_
    refine zq_wg 2 (pc' := 86) (lv' := [some (.ref x50), some (.ref x51), none]) (st' := [.int (0 : Int32), .ref x50]) (h' := h57) rfl ?_
    obtain ⟨h59, e60, hf⟩ := zo_b_s hf
    refine zr_pI rfl rfl (by decide) rfl rfl e60 ?_
    refine zq_wg 2 (pc' := 91) (lv' := [some (.ref x50), some (.ref x51), none]) (st' := [.int (0 : Int32), .ref x50]) (h' := h59) rfl ?_
    obtain ⟨h61, e62, hf⟩ := zo_b_s hf
    refine zr_pB rfl rfl (by decide) rfl rfl e62 ?_
    exact zr_rv rfl rfl hf
set_option maxRecDepth 4000 in
def zx_Tape_addEight_l3 (sc : zX) : Nat → Nat → Int64 → Int32 → zH → Option (Unit × zH)
  | 0, _, _, _, _ => none
  | n + 1, y1, y2, y3, h4 => if y3 < 0 then (some ((), h4)) else (zo_l (fun (x6 : Nat) (x7 : Int64) (x8 : Int32) (h9 : zH) => zx_Tape_addEight_l3 sc n x6 x7 (x8 + (-8 : Int32)) h9 ) (fun j79_9 => zo_l (fun (x10 : Nat) (x11 : Int64) (x12 : Int32) (x13 : Int32) (h14 : zH) => zo_b (zo_gI h14 5 x10 1) (fun v15 => if v15 < 0 then (j79_9 x10 x11 x12 h14) else (zo_b (zo_gI h14 5 x10 1) (fun v18 => zo_b (zo_gR h14 5 x10 0) (fun v20 => zo_b (zq_len sc h14 v20) (fun v22 => if v22 ≤ v18 then (j79_9 x10 x11 x12 h14) else (zo_b (zo_gR h14 5 x10 0) (fun v25 => zo_b (zo_gI h14 5 x10 1) (fun v27 => zo_b (zq_wrX 3 h14 v25 v27 (vp_nar .char ((x13.toUInt32 % 65536).toInt32))) (fun h29 => zo_b (zo_gI h29 5 x10 1) (fun v31 => zo_b (zo_pI h29 5 x10 1 (v31 + (1 : Int32))) (fun h33 => j79_9 x10 x11 x12 h33)))))))))))) (fun j38_14 => if ((y2 >>> (y3.toInt64 &&& 63)) &&& (255 : Int64)).toInt32 = (10 : Int32) then (j38_14 y1 y2 y3 (((y2 >>> (y3.toInt64 &&& 63)) &&& (255 : Int64)).toInt32) h4) else (if ((y2 >>> (y3.toInt64 &&& 63)) &&& (255 : Int64)).toInt32 < (32 : Int32) then (j79_9 y1 y2 y3 h4) else (if (126 : Int32) < ((y2 >>> (y3.toInt64 &&& 63)) &&& (255 : Int64)).toInt32 then (j79_9 y1 y2 y3 h4) else (j38_14 y1 y2 y3 (((y2 >>> (y3.toInt64 &&& 63)) &&& (255 : Int64)).toInt32) h4))))))
set_option maxRecDepth 4000 in
def zx_Tape_addEight (sc : zX) (a0 : Nat) (a1 : Int64) (h : zH) : Option (Unit × zH) := zx_Tape_addEight_l3 sc zo_F a0 a1 (56 : Int32) h 
set_option maxRecDepth 4000 in
theorem zx_Tape_addEight_l3_ok (sc : zX) (d : Nat) : ∀ (n : Nat) (y1 : Nat) (y2 : Int64) (y3 : Int32) (h4 : zH) (ro_ : Unit) (ho_ : zH),  zx_Tape_addEight_l3 sc n y1 y2 y3 h4  = some (ro_, ho_) → zq_wp sc d 14 3 [some (.ref y1), some (.long y2), none, some (.int y3), none] [] h4 (none, ho_) := by
  intro n
  induction n with
  | zero => intro y1 y2 y3 h4 ro_ ho_ hf; cases hf
  | succ n ih =>
    intro y1 y2 y3 h4 ro_ ho_ hf
    refine zq_wg 1 (pc' := 4) (lv' := [some (.ref y1), some (.long y2), none, some (.int y3), none]) (st' := [.int y3]) (h' := h4) rfl ?_
    refine zr_if (y3 < 0) 85 7 (st' := []) rfl rfl (fun b5 => ?_) (fun b5 => ?_)
    · have hf := zo_t hf b5
      exact zr_rv rfl rfl hf
    · have hf := zo_f hf b5
      refine zq_wg 9 (pc' := 21) (lv' := [some (.ref y1), some (.long y2), none, some (.int y3), some (.int (((y2 >>> (y3.toInt64 &&& 63)) &&& (255 : Int64)).toInt32))]) (st' := [.int (10 : Int32), .int (((y2 >>> (y3.toInt64 &&& 63)) &&& (255 : Int64)).toInt32)]) (h' := h4) rfl ?_
      obtain ⟨j79_9, hjj79_9, hf⟩ := zo_lj hf
      have kj79_9 : ∀ (x6 : Nat) (x7 : Int64) (x8 : Int32) (h9 : zH), j79_9 x6 x7 x8 h9 = some (ro_, ho_) → zq_wp sc d 14 79 [some (.ref x6), some (.long x7), none, some (.int x8), none] [] h9 (none, ho_) := by
        intro x6 x7 x8 h9 hf
        rw [hjj79_9] at hf
        refine zq_wg 2 (pc' := 3) (lv' := [some (.ref x6), some (.long x7), none, some (.int (x8 + (-8 : Int32))), none]) (st' := []) (h' := h9) rfl ?_
        exact ih x6 x7 (x8 + (-8 : Int32)) h9 _ _ hf
      obtain ⟨j38_14, hjj38_14, hf⟩ := zo_lj hf
      have kj38_14 : ∀ (x10 : Nat) (x11 : Int64) (x12 : Int32) (x13 : Int32) (h14 : zH), j38_14 x10 x11 x12 x13 h14 = some (ro_, ho_) → zq_wp sc d 14 38 [some (.ref x10), some (.long x11), none, some (.int x12), some (.int x13)] [] h14 (none, ho_) := by
        intro x10 x11 x12 x13 h14 hf
        rw [hjj38_14] at hf
        refine zq_wg 1 (pc' := 39) (lv' := [some (.ref x10), some (.long x11), none, some (.int x12), some (.int x13)]) (st' := [.ref x10]) (h' := h14) rfl ?_
        obtain ⟨v15, e16, hf⟩ := zo_b_s hf
        refine zr_gI rfl rfl (by decide) rfl e16 ?_
        refine zr_if (v15 < 0) 79 45 (st' := []) rfl rfl (fun b17 => ?_) (fun b17 => ?_)
        · have hf := zo_t hf b17
          refine zq_fg [some (.ref x10), some (.long x11), none, some (.int x12), none] (zq_lvle_s (zq_lvle_s (zq_lvle_s (zq_lvle_s (zq_lvle_n zq_lvle_nil))))) ?_
          exact kj79_9 x10 x11 x12 h14 hf
        · have hf := zo_f hf b17
          refine zq_wg 1 (pc' := 46) (lv' := [some (.ref x10), some (.long x11), none, some (.int x12), some (.int x13)]) (st' := [.ref x10]) (h' := h14) rfl ?_
          obtain ⟨v18, e19, hf⟩ := zo_b_s hf
          refine zr_gI rfl rfl (by decide) rfl e19 ?_
          refine zq_wg 1 (pc' := 50) (lv' := [some (.ref x10), some (.long x11), none, some (.int x12), some (.int x13)]) (st' := [.ref x10, .int v18]) (h' := h14) rfl ?_
          obtain ⟨v20, e21, hf⟩ := zo_b_s hf
          refine zr_gR rfl rfl (by decide) rfl e21 ?_
          obtain ⟨v22, e23, hf⟩ := zo_b_s hf
          refine zr_alen rfl e23 ?_
          refine zr_if (v22 ≤ v18) 79 57 (st' := []) rfl rfl (fun b24 => ?_) (fun b24 => ?_)
          · have hf := zo_t hf b24
            refine zq_fg [some (.ref x10), some (.long x11), none, some (.int x12), none] (zq_lvle_s (zq_lvle_s (zq_lvle_s (zq_lvle_s (zq_lvle_n zq_lvle_nil))))) ?_
            exact kj79_9 x10 x11 x12 h14 hf
          · have hf := zo_f hf b24
            refine zq_wg 1 (pc' := 58) (lv' := [some (.ref x10), some (.long x11), none, some (.int x12), some (.int x13)]) (st' := [.ref x10]) (h' := h14) rfl ?_
            obtain ⟨v25, e26, hf⟩ := zo_b_s hf
            refine zr_gR rfl rfl (by decide) rfl e26 ?_
            refine zq_wg 1 (pc' := 62) (lv' := [some (.ref x10), some (.long x11), none, some (.int x12), some (.int x13)]) (st' := [.ref x10, .ref v25]) (h' := h14) rfl ?_
            obtain ⟨v27, e28, hf⟩ := zo_b_s hf
            refine zr_gI rfl rfl (by decide) rfl e28 ?_
            refine zq_wg 2 (pc' := 68) (lv' := [some (.ref x10), some (.long x11), none, some (.int x12), some (.int x13)]) (st' := [.int ((x13.toUInt32 % 65536).toInt32), .int v27, .ref v25]) (h' := h14) rfl ?_
            obtain ⟨h29, e30, hf⟩ := zo_b_s hf
            refine zr_cast rfl e30 ?_
            refine zq_wg 2 (pc' := 71) (lv' := [some (.ref x10), some (.long x11), none, some (.int x12), some (.int x13)]) (st' := [.ref x10, .ref x10]) (h' := h29) rfl ?_
            obtain ⟨v31, e32, hf⟩ := zo_b_s hf
            refine zr_gI rfl rfl (by decide) rfl e32 ?_
            refine zq_wg 2 (pc' := 76) (lv' := [some (.ref x10), some (.long x11), none, some (.int x12), some (.int x13)]) (st' := [.int (v31 + (1 : Int32)), .ref x10]) (h' := h29) rfl ?_
            obtain ⟨h33, e34, hf⟩ := zo_b_s hf
            refine zr_pI rfl rfl (by decide) rfl rfl e34 ?_
            refine zq_fg [some (.ref x10), some (.long x11), none, some (.int x12), none] (zq_lvle_s (zq_lvle_s (zq_lvle_s (zq_lvle_s (zq_lvle_n zq_lvle_nil))))) ?_
            exact kj79_9 x10 x11 x12 h33 hf
      refine zr_if (((y2 >>> (y3.toInt64 &&& 63)) &&& (255 : Int64)).toInt32 = (10 : Int32)) 38 24 (st' := []) rfl rfl (fun b35 => ?_) (fun b35 => ?_)
      · have hf := zo_t hf b35
        exact kj38_14 y1 y2 y3 (((y2 >>> (y3.toInt64 &&& 63)) &&& (255 : Int64)).toInt32) h4 hf
      · have hf := zo_f hf b35
        refine zq_wg 2 (pc' := 28) (lv' := [some (.ref y1), some (.long y2), none, some (.int y3), some (.int (((y2 >>> (y3.toInt64 &&& 63)) &&& (255 : Int64)).toInt32))]) (st' := [.int (32 : Int32), .int (((y2 >>> (y3.toInt64 &&& 63)) &&& (255 : Int64)).toInt32)]) (h' := h4) rfl ?_
        refine zr_if (((y2 >>> (y3.toInt64 &&& 63)) &&& (255 : Int64)).toInt32 < (32 : Int32)) 79 31 (st' := []) rfl rfl (fun b36 => ?_) (fun b36 => ?_)
        · have hf := zo_t hf b36
          refine zq_fg [some (.ref y1), some (.long y2), none, some (.int y3), none] (zq_lvle_s (zq_lvle_s (zq_lvle_s (zq_lvle_s (zq_lvle_n zq_lvle_nil))))) ?_
          exact kj79_9 y1 y2 y3 h4 hf
        · have hf := zo_f hf b36
          refine zq_wg 2 (pc' := 35) (lv' := [some (.ref y1), some (.long y2), none, some (.int y3), some (.int (((y2 >>> (y3.toInt64 &&& 63)) &&& (255 : Int64)).toInt32))]) (st' := [.int (126 : Int32), .int (((y2 >>> (y3.toInt64 &&& 63)) &&& (255 : Int64)).toInt32)]) (h' := h4) rfl ?_
          refine zr_if ((126 : Int32) < ((y2 >>> (y3.toInt64 &&& 63)) &&& (255 : Int64)).toInt32) 79 38 (st' := []) rfl rfl (fun b37 => ?_) (fun b37 => ?_)
          · have hf := zo_t hf b37
            refine zq_fg [some (.ref y1), some (.long y2), none, some (.int y3), none] (zq_lvle_s (zq_lvle_s (zq_lvle_s (zq_lvle_s (zq_lvle_n zq_lvle_nil))))) ?_
            exact kj79_9 y1 y2 y3 h4 hf
          · have hf := zo_f hf b37
            exact kj38_14 y1 y2 y3 (((y2 >>> (y3.toInt64 &&& 63)) &&& (255 : Int64)).toInt32) h4 hf
set_option maxRecDepth 4000 in
theorem zx_Tape_addEight_ok (sc : zX) (d : Nat) (hd : 0 ≤ d) {a0 : Nat} {a1 : Int64} {h : zH} {ro_ : Unit} {ho_ : zH} (hf : zx_Tape_addEight sc a0 a1 h = some (ro_, ho_)) : zq_wm sc d 14 [.ref a0, .long a1] h (none, ho_) := by
  unfold zx_Tape_addEight at hf
  show zq_wp sc d 14 0 [some (.ref a0), some (.long a1), none, none, none] [] h _
  refine zq_wg 2 (pc' := 3) (lv' := [some (.ref a0), some (.long a1), none, some (.int (56 : Int32)), none]) (st' := []) (h' := h) rfl ?_
  refine zx_Tape_addEight_l3_ok sc d zo_F a0 a1 (56 : Int32) h _ _ hf
set_option maxRecDepth 4000 in
def zx_feed (sc : zX) (a0 : Nat) (a1 : Int64) (a2 : Int64) (a3 : Int64) (h : zH) : Option (Int32 × zH) := zo_b (zo_gR h 9 a0 0) (fun v1 => zo_v h v1 5 (zx_Tape_addEight sc v1 a1 h) (fun w4 h3 => zo_b (zo_gR h3 9 a0 0) (fun v7 => zo_v h3 v7 5 (zx_Tape_addEight sc v7 a2 h3) (fun w10 h9 => zo_b (zo_gR h9 9 a0 0) (fun v13 => zo_v h9 v13 5 (zx_Tape_addEight sc v13 a3 h9) (fun w16 h15 => zo_b (zo_gR h15 9 a0 0) (fun v19 => zo_b (zo_gI h15 5 v19 1) (fun v21 => some (v21, h15)))))))))
set_option maxRecDepth 4000 in
theorem zx_feed_ok (sc : zX) (d : Nat) (hd : 1 ≤ d) {a0 : Nat} {a1 : Int64} {a2 : Int64} {a3 : Int64} {h : zH} {ro_ : Int32} {ho_ : zH} (hf : zx_feed sc a0 a1 a2 a3 h = some (ro_, ho_)) : zq_wm sc d 13 [.ref a0, .long a1, .long a2, .long a3] h (some (.int ro_), ho_) := by
  unfold zx_feed at hf
  obtain ⟨d, rfl⟩ : ∃ d', d = d' + 1 := ⟨d - 1, by omega⟩
  have hd : 0 ≤ d := by omega
  show zq_wp sc (d + 1) 13 0 [some (.ref a0), some (.long a1), none, some (.long a2), none, some (.long a3), none] [] h _
  refine zq_wg 1 (pc' := 1) (lv' := [some (.ref a0), some (.long a1), none, some (.long a2), none, some (.long a3), none]) (st' := [.ref a0]) (h' := h) rfl ?_
  obtain ⟨v1, e2, hf⟩ := zo_b_s hf
  refine zr_gR rfl rfl (by decide) rfl e2 ?_
  refine zq_wg 1 (pc' := 5) (lv' := [some (.ref a0), some (.long a1), none, some (.long a2), none, some (.long a3), none]) (st' := [.long a1, .ref v1]) (h' := h) rfl ?_
  obtain ⟨e6, w4, h3, e5, hf⟩ := zo_v_s hf
  refine zr_cv zq_m14 [.long a1] [] rfl rfl rfl rfl rfl (Nat.le_of_ble_eq_true rfl) (Nat.le_of_ble_eq_true rfl) e6 (zx_Tape_addEight_ok sc d (by omega) e5) ?_
  refine zq_wg 0 (pc' := 8) (lv' := [some (.ref a0), some (.long a1), none, some (.long a2), none, some (.long a3), none]) (st' := []) (h' := h3) rfl ?_
  refine zq_wg 1 (pc' := 9) (lv' := [some (.ref a0), some (.long a1), none, some (.long a2), none, some (.long a3), none]) (st' := [.ref a0]) (h' := h3) rfl ?_
  obtain ⟨v7, e8, hf⟩ := zo_b_s hf
  refine zr_gR rfl rfl (by decide) rfl e8 ?_
  refine zq_wg 1 (pc' := 13) (lv' := [some (.ref a0), some (.long a1), none, some (.long a2), none, some (.long a3), none]) (st' := [.long a2, .ref v7]) (h' := h3) rfl ?_
  obtain ⟨e12, w10, h9, e11, hf⟩ := zo_v_s hf
  refine zr_cv zq_m14 [.long a2] [] rfl rfl rfl rfl rfl (Nat.le_of_ble_eq_true rfl) (Nat.le_of_ble_eq_true rfl) e12 (zx_Tape_addEight_ok sc d (by omega) e11) ?_
  refine zq_wg 0 (pc' := 16) (lv' := [some (.ref a0), some (.long a1), none, some (.long a2), none, some (.long a3), none]) (st' := []) (h' := h9) rfl ?_
  refine zq_wg 1 (pc' := 17) (lv' := [some (.ref a0), some (.long a1), none, some (.long a2), none, some (.long a3), none]) (st' := [.ref a0]) (h' := h9) rfl ?_
  obtain ⟨v13, e14, hf⟩ := zo_b_s hf
  refine zr_gR rfl rfl (by decide) rfl e14 ?_
  refine zq_wg 1 (pc' := 22) (lv' := [some (.ref a0), some (.long a1), none, some (.long a2), none, some (.long a3), none]) (st' := [.long a3, .ref v13]) (h' := h9) rfl ?_
  obtain ⟨e18, w16, h15, e17, hf⟩ := zo_v_s hf
  refine zr_cv zq_m14 [.long a3] [] rfl rfl rfl rfl rfl (Nat.le_of_ble_eq_true rfl) (Nat.le_of_ble_eq_true rfl) e18 (zx_Tape_addEight_ok sc d (by omega) e17) ?_
  refine zq_wg 0 (pc' := 25) (lv' := [some (.ref a0), some (.long a1), none, some (.long a2), none, some (.long a3), none]) (st' := []) (h' := h15) rfl ?_
  refine zq_wg 1 (pc' := 26) (lv' := [some (.ref a0), some (.long a1), none, some (.long a2), none, some (.long a3), none]) (st' := [.ref a0]) (h' := h15) rfl ?_
  obtain ⟨v19, e20, hf⟩ := zo_b_s hf
  refine zr_gR rfl rfl (by decide) rfl e20 ?_
  obtain ⟨v21, e22, hf⟩ := zo_b_s hf
  refine zr_gI rfl rfl (by decide) rfl e22 ?_
  exact zr_ri rfl rfl rfl hf
set_option maxRecDepth 4000 in
def zx_Laws_clear_l7 (sc : zX) : Nat → Nat → Int32 → zH → Option (Unit × zH)
  | 0, _, _, _ => none
  | n + 1, y3, y4, h5 => if (3 : Int32) ≤ y4 then (some ((), h5)) else (zo_b (zo_gR h5 1 y3 1) (fun v7 => zo_c (zx_put sc v7 y4 (0 : Int32) h5) (fun w10 h9 => zo_b (zo_gR h9 1 y3 2) (fun v12 => zo_c (zx_put sc v12 y4 (0 : Int32) h9) (fun w15 h14 => zx_Laws_clear_l7 sc n y3 (y4 + (1 : Int32)) h14 )))))
set_option maxRecDepth 4000 in
def zx_Laws_clear (sc : zX) (a0 : Nat) (h : zH) : Option (Unit × zH) := zo_b (zo_pI h 1 a0 5 (0 : Int32)) (fun h1 => zx_Laws_clear_l7 sc zo_F a0 (0 : Int32) h1 )
set_option maxRecDepth 4000 in
theorem zx_Laws_clear_l7_ok (sc : zX) (d : Nat) (hd : 0 ≤ d) : ∀ (n : Nat) (y3 : Nat) (y4 : Int32) (h5 : zH) (ro_ : Unit) (ho_ : zH),  zx_Laws_clear_l7 sc n y3 y4 h5  = some (ro_, ho_) → zq_wp sc (d + 1) 18 7 [some (.ref y3), some (.int y4)] [] h5 (none, ho_) := by
  intro n
  induction n with
  | zero => intro y3 y4 h5 ro_ ho_ hf; cases hf
  | succ n ih =>
    intro y3 y4 h5 ro_ ho_ hf
    refine zq_wg 2 (pc' := 9) (lv' := [some (.ref y3), some (.int y4)]) (st' := [.int (3 : Int32), .int y4]) (h' := h5) rfl ?_
    refine zr_if ((3 : Int32) ≤ y4) 36 12 (st' := []) rfl rfl (fun b6 => ?_) (fun b6 => ?_)
    · have hf := zo_t hf b6
      exact zr_rv rfl rfl hf
    · have hf := zo_f hf b6
      refine zq_wg 1 (pc' := 13) (lv' := [some (.ref y3), some (.int y4)]) (st' := [.ref y3]) (h' := h5) rfl ?_
      obtain ⟨v7, e8, hf⟩ := zo_b_s hf
      refine zr_gR rfl rfl (by decide) rfl e8 ?_
      refine zq_wg 2 (pc' := 18) (lv' := [some (.ref y3), some (.int y4)]) (st' := [.int (0 : Int32), .int y4, .ref v7]) (h' := h5) rfl ?_
      obtain ⟨w10, h9, e11, hf⟩ := zo_c_s hf
      refine zr_cs zq_m11 [.ref v7, .int y4, .int (0 : Int32)] [] rfl rfl (by decide) rfl rfl rfl (Nat.le_of_ble_eq_true rfl) (Nat.le_of_ble_eq_true rfl) (zx_put_ok sc d (by omega) e11) ?_
      refine zq_wg 0 (pc' := 21) (lv' := [some (.ref y3), some (.int y4)]) (st' := []) (h' := h9) rfl ?_
      refine zq_wg 1 (pc' := 22) (lv' := [some (.ref y3), some (.int y4)]) (st' := [.ref y3]) (h' := h9) rfl ?_
      obtain ⟨v12, e13, hf⟩ := zo_b_s hf
      refine zr_gR rfl rfl (by decide) rfl e13 ?_
      refine zq_wg 2 (pc' := 27) (lv' := [some (.ref y3), some (.int y4)]) (st' := [.int (0 : Int32), .int y4, .ref v12]) (h' := h9) rfl ?_
      obtain ⟨w15, h14, e16, hf⟩ := zo_c_s hf
      refine zr_cs zq_m11 [.ref v12, .int y4, .int (0 : Int32)] [] rfl rfl (by decide) rfl rfl rfl (Nat.le_of_ble_eq_true rfl) (Nat.le_of_ble_eq_true rfl) (zx_put_ok sc d (by omega) e16) ?_
      refine zq_wg 0 (pc' := 30) (lv' := [some (.ref y3), some (.int y4)]) (st' := []) (h' := h14) rfl ?_
      refine zq_wg 2 (pc' := 7) (lv' := [some (.ref y3), some (.int (y4 + (1 : Int32)))]) (st' := []) (h' := h14) rfl ?_
      exact ih y3 (y4 + (1 : Int32)) h14 _ _ hf
set_option maxRecDepth 4000 in
theorem zx_Laws_clear_ok (sc : zX) (d : Nat) (hd : 1 ≤ d) {a0 : Nat} {h : zH} {ro_ : Unit} {ho_ : zH} (hf : zx_Laws_clear sc a0 h = some (ro_, ho_)) : zq_wm sc d 18 [.ref a0] h (none, ho_) := by
  unfold zx_Laws_clear at hf
  obtain ⟨d, rfl⟩ : ∃ d', d = d' + 1 := ⟨d - 1, by omega⟩
  have hd : 0 ≤ d := by omega
  show zq_wp sc (d + 1) 18 0 [some (.ref a0), none] [] h _
  refine zq_wg 2 (pc' := 2) (lv' := [some (.ref a0), none]) (st' := [.int (0 : Int32), .ref a0]) (h' := h) rfl ?_
  obtain ⟨h1, e2, hf⟩ := zo_b_s hf
  refine zr_pI rfl rfl (by decide) rfl rfl e2 ?_
  refine zq_wg 2 (pc' := 7) (lv' := [some (.ref a0), some (.int (0 : Int32))]) (st' := []) (h' := h1) rfl ?_
  refine zx_Laws_clear_l7_ok sc d hd zo_F a0 (0 : Int32) h1 _ _ hf
set_option maxRecDepth 4000 in
def zx_Army_clear (sc : zX) (a0 : Nat) (h : zH) : Option (Unit × zH) := zo_b (zo_pI h 0 a0 0 (0 : Int32)) (fun h1 => zo_b (zo_pI h1 0 a0 1 (0 : Int32)) (fun h3 => zo_b (zo_pI h3 0 a0 2 (10 : Int32)) (fun h5 => zo_b (zo_pI h5 0 a0 3 (5 : Int32)) (fun h7 => zo_b (zo_pI h7 0 a0 4 (20 : Int32)) (fun h9 => zo_b (zo_pI h9 0 a0 5 (13 : Int32)) (fun h11 => zo_b (zo_pI h11 0 a0 6 (3 : Int32)) (fun h13 => zo_b (zo_pI h13 0 a0 18 (0 : Int32)) (fun h15 => zo_b (zo_gR h15 0 a0 17) (fun v17 => zo_v h15 v17 1 (zx_Laws_clear sc v17 h15) (fun w20 h19 => some ((), h19)))))))))))
set_option maxRecDepth 4000 in
theorem zx_Army_clear_ok (sc : zX) (d : Nat) (hd : 2 ≤ d) {a0 : Nat} {h : zH} {ro_ : Unit} {ho_ : zH} (hf : zx_Army_clear sc a0 h = some (ro_, ho_)) : zq_wm sc d 17 [.ref a0] h (none, ho_) := by
  unfold zx_Army_clear at hf
  obtain ⟨d, rfl⟩ : ∃ d', d = d' + 1 := ⟨d - 1, by omega⟩
  have hd : 1 ≤ d := by omega
  show zq_wp sc (d + 1) 17 0 [some (.ref a0)] [] h _
  refine zq_wg 2 (pc' := 2) (lv' := [some (.ref a0)]) (st' := [.int (0 : Int32), .ref a0]) (h' := h) rfl ?_
  obtain ⟨h1, e2, hf⟩ := zo_b_s hf
  refine zr_pI rfl rfl (by decide) rfl rfl e2 ?_
  refine zq_wg 2 (pc' := 7) (lv' := [some (.ref a0)]) (st' := [.int (0 : Int32), .ref a0]) (h' := h1) rfl ?_
  obtain ⟨h3, e4, hf⟩ := zo_b_s hf
  refine zr_pI rfl rfl (by decide) rfl rfl e4 ?_
  refine zq_wg 2 (pc' := 13) (lv' := [some (.ref a0)]) (st' := [.int (10 : Int32), .ref a0]) (h' := h3) rfl ?_
  obtain ⟨h5, e6, hf⟩ := zo_b_s hf
  refine zr_pI rfl rfl (by decide) rfl rfl e6 ?_
  refine zq_wg 2 (pc' := 18) (lv' := [some (.ref a0)]) (st' := [.int (5 : Int32), .ref a0]) (h' := h5) rfl ?_
  obtain ⟨h7, e8, hf⟩ := zo_b_s hf
  refine zr_pI rfl rfl (by decide) rfl rfl e8 ?_
  refine zq_wg 2 (pc' := 24) (lv' := [some (.ref a0)]) (st' := [.int (20 : Int32), .ref a0]) (h' := h7) rfl ?_
  obtain ⟨h9, e10, hf⟩ := zo_b_s hf
  refine zr_pI rfl rfl (by decide) rfl rfl e10 ?_
  refine zq_wg 2 (pc' := 30) (lv' := [some (.ref a0)]) (st' := [.int (13 : Int32), .ref a0]) (h' := h9) rfl ?_
  obtain ⟨h11, e12, hf⟩ := zo_b_s hf
  refine zr_pI rfl rfl (by decide) rfl rfl e12 ?_
  refine zq_wg 2 (pc' := 35) (lv' := [some (.ref a0)]) (st' := [.int (3 : Int32), .ref a0]) (h' := h11) rfl ?_
  obtain ⟨h13, e14, hf⟩ := zo_b_s hf
  refine zr_pI rfl rfl (by decide) rfl rfl e14 ?_
  refine zq_wg 2 (pc' := 40) (lv' := [some (.ref a0)]) (st' := [.int (0 : Int32), .ref a0]) (h' := h13) rfl ?_
  obtain ⟨h15, e16, hf⟩ := zo_b_s hf
  refine zr_pI rfl rfl (by decide) rfl rfl e16 ?_
  refine zq_wg 1 (pc' := 44) (lv' := [some (.ref a0)]) (st' := [.ref a0]) (h' := h15) rfl ?_
  obtain ⟨v17, e18, hf⟩ := zo_b_s hf
  refine zr_gR rfl rfl (by decide) rfl e18 ?_
  obtain ⟨e22, w20, h19, e21, hf⟩ := zo_v_s hf
  refine zr_cv zq_m18 [] [] rfl rfl rfl rfl rfl (Nat.le_of_ble_eq_true rfl) (Nat.le_of_ble_eq_true rfl) e22 (zx_Laws_clear_ok sc d (by omega) e21) ?_
  refine zq_wg 0 (pc' := 50) (lv' := [some (.ref a0)]) (st' := []) (h' := h19) rfl ?_
  exact zr_rv rfl rfl hf
set_option maxRecDepth 4000 in
def zx_Tape_signAt (sc : zX) (a0 : Nat) (a1 : Int32) (h : zH) : Option (Int32 × zH) := if a1 < 0 then (zo_rc (0 : Int32) h) else (zo_b (zo_gI h 5 a0 1) (fun v2 => if v2 ≤ a1 then (zo_rc (0 : Int32) h) else (zo_b (zo_gR h 5 a0 0) (fun v5 => zo_b (zq_len sc h v5) (fun v7 => if v7 ≤ a1 then (zo_rc (0 : Int32) h) else (zo_b (zo_gR h 5 a0 0) (fun v10 => zo_b (zq_rdX 3 h v10 a1) (fun v12 => zo_rc v12 h))))))))
set_option maxRecDepth 4000 in
theorem zx_Tape_signAt_ok (sc : zX) (d : Nat) (hd : 0 ≤ d) {a0 : Nat} {a1 : Int32} {h : zH} {ro_ : Int32} {ho_ : zH} (hf : zx_Tape_signAt sc a0 a1 h = some (ro_, ho_)) : zq_wm sc d 21 [.ref a0, .int a1] h (some (.int ro_), ho_) := by
  unfold zx_Tape_signAt at hf
  show zq_wp sc d 21 0 [some (.ref a0), some (.int a1)] [] h _
  refine zq_wg 1 (pc' := 1) (lv' := [some (.ref a0), some (.int a1)]) (st' := [.int a1]) (h' := h) rfl ?_
  refine zr_if (a1 < 0) 30 4 (st' := []) rfl rfl (fun b1 => ?_) (fun b1 => ?_)
  · have hf := zo_t hf b1
    refine zq_wg 1 (pc' := 31) (lv' := [some (.ref a0), some (.int a1)]) (st' := [.int (0 : Int32)]) (h' := h) rfl ?_
    exact zr_rc rfl rfl hf
  · have hf := zo_f hf b1
    refine zq_wg 2 (pc' := 6) (lv' := [some (.ref a0), some (.int a1)]) (st' := [.ref a0, .int a1]) (h' := h) rfl ?_
    obtain ⟨v2, e3, hf⟩ := zo_b_s hf
    refine zr_gI rfl rfl (by decide) rfl e3 ?_
    refine zr_if (v2 ≤ a1) 30 12 (st' := []) rfl rfl (fun b4 => ?_) (fun b4 => ?_)
    · have hf := zo_t hf b4
      refine zq_wg 1 (pc' := 31) (lv' := [some (.ref a0), some (.int a1)]) (st' := [.int (0 : Int32)]) (h' := h) rfl ?_
      exact zr_rc rfl rfl hf
    · have hf := zo_f hf b4
      refine zq_wg 2 (pc' := 14) (lv' := [some (.ref a0), some (.int a1)]) (st' := [.ref a0, .int a1]) (h' := h) rfl ?_
      obtain ⟨v5, e6, hf⟩ := zo_b_s hf
      refine zr_gR rfl rfl (by decide) rfl e6 ?_
      obtain ⟨v7, e8, hf⟩ := zo_b_s hf
      refine zr_alen rfl e8 ?_
      refine zr_if (v7 ≤ a1) 30 21 (st' := []) rfl rfl (fun b9 => ?_) (fun b9 => ?_)
      · have hf := zo_t hf b9
        refine zq_wg 1 (pc' := 31) (lv' := [some (.ref a0), some (.int a1)]) (st' := [.int (0 : Int32)]) (h' := h) rfl ?_
        exact zr_rc rfl rfl hf
      · have hf := zo_f hf b9
        refine zq_wg 1 (pc' := 22) (lv' := [some (.ref a0), some (.int a1)]) (st' := [.ref a0]) (h' := h) rfl ?_
        obtain ⟨v10, e11, hf⟩ := zo_b_s hf
        refine zr_gR rfl rfl (by decide) rfl e11 ?_
        refine zq_wg 1 (pc' := 26) (lv' := [some (.ref a0), some (.int a1)]) (st' := [.int a1, .ref v10]) (h' := h) rfl ?_
        obtain ⟨v12, e13, hf⟩ := zo_b_s hf
        refine zr_cald rfl e13 ?_
        refine zq_wg 1 (pc' := 31) (lv' := [some (.ref a0), some (.int a1)]) (st' := [.int v12]) (h' := h) rfl ?_
        exact zr_rc rfl rfl hf
set_option maxRecDepth 4000 in
def zx_Tape_typeOf (sc : zX) (a0 : Int32) (h : zH) : Option (Int32 × zH) := zo_l (fun (x1 : Int32) (h2 : zH) => zo_l (fun (x3 : Int32) (h4 : zH) => if x3 = (32 : Int32) then (some ((4 : Int32), h4)) else (if x3 = (10 : Int32) then (some ((4 : Int32), h4)) else (zo_l (fun (x7 : Int32) (h8 : zH) => if x7 = 0 then (some ((5 : Int32), h8)) else (some ((3 : Int32), h8))) (fun j95_8 => zo_l (fun  (h10 : zH) => j95_8 (1 : Int32) h10) (fun j90_10 => if x3 = (40 : Int32) then (j90_10  h4) else (if x3 = (41 : Int32) then (j90_10  h4) else (if x3 = (60 : Int32) then (j90_10  h4) else (if x3 = (61 : Int32) then (j90_10  h4) else (if x3 = (43 : Int32) then (j90_10  h4) else (if x3 = (45 : Int32) then (j90_10  h4) else (if x3 = (42 : Int32) then (j90_10  h4) else (if x3 = (59 : Int32) then (j90_10  h4) else (j95_8 (0 : Int32) h4))))))))))))) (fun j28_4 => if x1 < (48 : Int32) then (j28_4 x1 h2) else (if (57 : Int32) < x1 then (j28_4 x1 h2) else (some ((2 : Int32), h2))))) (fun j14_2 => if a0 < (97 : Int32) then (j14_2 a0 h) else (if (122 : Int32) < a0 then (j14_2 a0 h) else (some ((1 : Int32), h))))
set_option maxRecDepth 4000 in
theorem zx_Tape_typeOf_ok (sc : zX) (d : Nat) (hd : 0 ≤ d) {a0 : Int32} {h : zH} {ro_ : Int32} {ho_ : zH} (hf : zx_Tape_typeOf sc a0 h = some (ro_, ho_)) : zq_wm sc d 22 [.int a0] h (some (.int ro_), ho_) := by
  unfold zx_Tape_typeOf at hf
  show zq_wp sc d 22 0 [some (.int a0), none] [] h _
  refine zq_wg 2 (pc' := 3) (lv' := [some (.int a0), none]) (st' := [.int (97 : Int32), .int a0]) (h' := h) rfl ?_
  obtain ⟨j14_2, hjj14_2, hf⟩ := zo_lj hf
  have kj14_2 : ∀ (x1 : Int32) (h2 : zH), j14_2 x1 h2 = some (ro_, ho_) → zq_wp sc d 22 14 [some (.int x1), none] [] h2 (some (.int ro_), ho_) := by
    intro x1 h2 hf
    rw [hjj14_2] at hf
    refine zq_wg 2 (pc' := 17) (lv' := [some (.int x1), none]) (st' := [.int (48 : Int32), .int x1]) (h' := h2) rfl ?_
    obtain ⟨j28_4, hjj28_4, hf⟩ := zo_lj hf
    have kj28_4 : ∀ (x3 : Int32) (h4 : zH), j28_4 x3 h4 = some (ro_, ho_) → zq_wp sc d 22 28 [some (.int x3), none] [] h4 (some (.int ro_), ho_) := by
      intro x3 h4 hf
      rw [hjj28_4] at hf
      refine zq_wg 2 (pc' := 31) (lv' := [some (.int x3), none]) (st' := [.int (32 : Int32), .int x3]) (h' := h4) rfl ?_
      refine zr_if (x3 = (32 : Int32)) 40 34 (st' := []) rfl rfl (fun b5 => ?_) (fun b5 => ?_)
      · have hf := zo_t hf b5
        refine zq_wg 1 (pc' := 41) (lv' := [some (.int x3), none]) (st' := [.int (4 : Int32)]) (h' := h4) rfl ?_
        exact zr_ri rfl rfl rfl hf
      · have hf := zo_f hf b5
        refine zq_wg 2 (pc' := 37) (lv' := [some (.int x3), none]) (st' := [.int (10 : Int32), .int x3]) (h' := h4) rfl ?_
        refine zr_if (x3 = (10 : Int32)) 40 42 (st' := []) rfl rfl (fun b6 => ?_) (fun b6 => ?_)
        · have hf := zo_t hf b6
          refine zq_wg 1 (pc' := 41) (lv' := [some (.int x3), none]) (st' := [.int (4 : Int32)]) (h' := h4) rfl ?_
          exact zr_ri rfl rfl rfl hf
        · have hf := zo_f hf b6
          refine zq_wg 2 (pc' := 45) (lv' := [some (.int x3), none]) (st' := [.int (40 : Int32), .int x3]) (h' := h4) rfl ?_
          obtain ⟨j95_8, hjj95_8, hf⟩ := zo_lj hf
          have kj95_8 : ∀ (x7 : Int32) (h8 : zH), j95_8 x7 h8 = some (ro_, ho_) → zq_wp sc d 22 95 [none, none] [.int x7] h8 (some (.int ro_), ho_) := by
            intro x7 h8 hf
            rw [hjj95_8] at hf
            refine zq_wg 2 (pc' := 97) (lv' := [none, some (.int x7)]) (st' := [.int x7]) (h' := h8) rfl ?_
            refine zr_if (x7 = 0) 104 100 (st' := []) rfl rfl (fun b9 => ?_) (fun b9 => ?_)
            · have hf := zo_t hf b9
              refine zq_wg 1 (pc' := 105) (lv' := [none, some (.int x7)]) (st' := [.int (5 : Int32)]) (h' := h8) rfl ?_
              exact zr_ri rfl rfl rfl hf
            · have hf := zo_f hf b9
              refine zq_wg 2 (pc' := 105) (lv' := [none, some (.int x7)]) (st' := [.int (3 : Int32)]) (h' := h8) rfl ?_
              exact zr_ri rfl rfl rfl hf
          obtain ⟨j90_10, hjj90_10, hf⟩ := zo_lj hf
          have kj90_10 : ∀  (h10 : zH), j90_10 h10 = some (ro_, ho_) → zq_wp sc d 22 90 [none, none] [] h10 (some (.int ro_), ho_) := by
            intro h10 hf
            rw [hjj90_10] at hf
            refine zq_wg 2 (pc' := 95) (lv' := [none, none]) (st' := [.int (1 : Int32)]) (h' := h10) rfl ?_
            exact kj95_8 (1 : Int32) h10 hf
          refine zr_if (x3 = (40 : Int32)) 90 48 (st' := []) rfl rfl (fun b11 => ?_) (fun b11 => ?_)
          · have hf := zo_t hf b11
            refine zq_fg [none, none] (zq_lvle_n (zq_lvle_s zq_lvle_nil)) ?_
            exact kj90_10  h4 hf
          · have hf := zo_f hf b11
            refine zq_wg 2 (pc' := 51) (lv' := [some (.int x3), none]) (st' := [.int (41 : Int32), .int x3]) (h' := h4) rfl ?_
            refine zr_if (x3 = (41 : Int32)) 90 54 (st' := []) rfl rfl (fun b12 => ?_) (fun b12 => ?_)
            · have hf := zo_t hf b12
              refine zq_fg [none, none] (zq_lvle_n (zq_lvle_s zq_lvle_nil)) ?_
              exact kj90_10  h4 hf
            · have hf := zo_f hf b12
              refine zq_wg 2 (pc' := 57) (lv' := [some (.int x3), none]) (st' := [.int (60 : Int32), .int x3]) (h' := h4) rfl ?_
              refine zr_if (x3 = (60 : Int32)) 90 60 (st' := []) rfl rfl (fun b13 => ?_) (fun b13 => ?_)
              · have hf := zo_t hf b13
                refine zq_fg [none, none] (zq_lvle_n (zq_lvle_s zq_lvle_nil)) ?_
                exact kj90_10  h4 hf
              · have hf := zo_f hf b13
                refine zq_wg 2 (pc' := 63) (lv' := [some (.int x3), none]) (st' := [.int (61 : Int32), .int x3]) (h' := h4) rfl ?_
                refine zr_if (x3 = (61 : Int32)) 90 66 (st' := []) rfl rfl (fun b14 => ?_) (fun b14 => ?_)
                · have hf := zo_t hf b14
                  refine zq_fg [none, none] (zq_lvle_n (zq_lvle_s zq_lvle_nil)) ?_
                  exact kj90_10  h4 hf
                · have hf := zo_f hf b14
                  refine zq_wg 2 (pc' := 69) (lv' := [some (.int x3), none]) (st' := [.int (43 : Int32), .int x3]) (h' := h4) rfl ?_
                  refine zr_if (x3 = (43 : Int32)) 90 72 (st' := []) rfl rfl (fun b15 => ?_) (fun b15 => ?_)
                  · have hf := zo_t hf b15
                    refine zq_fg [none, none] (zq_lvle_n (zq_lvle_s zq_lvle_nil)) ?_
                    exact kj90_10  h4 hf
                  · have hf := zo_f hf b15
                    refine zq_wg 2 (pc' := 75) (lv' := [some (.int x3), none]) (st' := [.int (45 : Int32), .int x3]) (h' := h4) rfl ?_
                    refine zr_if (x3 = (45 : Int32)) 90 78 (st' := []) rfl rfl (fun b16 => ?_) (fun b16 => ?_)
                    · have hf := zo_t hf b16
                      refine zq_fg [none, none] (zq_lvle_n (zq_lvle_s zq_lvle_nil)) ?_
                      exact kj90_10  h4 hf
                    · have hf := zo_f hf b16
                      refine zq_wg 2 (pc' := 81) (lv' := [some (.int x3), none]) (st' := [.int (42 : Int32), .int x3]) (h' := h4) rfl ?_
                      refine zr_if (x3 = (42 : Int32)) 90 84 (st' := []) rfl rfl (fun b17 => ?_) (fun b17 => ?_)
                      · have hf := zo_t hf b17
                        refine zq_fg [none, none] (zq_lvle_n (zq_lvle_s zq_lvle_nil)) ?_
                        exact kj90_10  h4 hf
                      · have hf := zo_f hf b17
                        refine zq_wg 2 (pc' := 87) (lv' := [some (.int x3), none]) (st' := [.int (59 : Int32), .int x3]) (h' := h4) rfl ?_
                        refine zr_if (x3 = (59 : Int32)) 90 94 (st' := []) rfl rfl (fun b18 => ?_) (fun b18 => ?_)
                        · have hf := zo_t hf b18
                          refine zq_fg [none, none] (zq_lvle_n (zq_lvle_s zq_lvle_nil)) ?_
                          exact kj90_10  h4 hf
                        · have hf := zo_f hf b18
                          refine zq_wg 1 (pc' := 95) (lv' := [some (.int x3), none]) (st' := [.int (0 : Int32)]) (h' := h4) rfl ?_
                          refine zq_fg [none, none] (zq_lvle_n (zq_lvle_s zq_lvle_nil)) ?_
                          exact kj95_8 (0 : Int32) h4 hf
    refine zr_if (x1 < (48 : Int32)) 28 20 (st' := []) rfl rfl (fun b19 => ?_) (fun b19 => ?_)
    · have hf := zo_t hf b19
      exact kj28_4 x1 h2 hf
    · have hf := zo_f hf b19
      refine zq_wg 2 (pc' := 23) (lv' := [some (.int x1), none]) (st' := [.int (57 : Int32), .int x1]) (h' := h2) rfl ?_
      refine zr_if ((57 : Int32) < x1) 28 26 (st' := []) rfl rfl (fun b20 => ?_) (fun b20 => ?_)
      · have hf := zo_t hf b20
        exact kj28_4 x1 h2 hf
      · have hf := zo_f hf b20
        refine zq_wg 1 (pc' := 27) (lv' := [some (.int x1), none]) (st' := [.int (2 : Int32)]) (h' := h2) rfl ?_
        exact zr_ri rfl rfl rfl hf
  refine zr_if (a0 < (97 : Int32)) 14 6 (st' := []) rfl rfl (fun b21 => ?_) (fun b21 => ?_)
  · have hf := zo_t hf b21
    exact kj14_2 a0 h hf
  · have hf := zo_f hf b21
    refine zq_wg 2 (pc' := 9) (lv' := [some (.int a0), none]) (st' := [.int (122 : Int32), .int a0]) (h' := h) rfl ?_
    refine zr_if ((122 : Int32) < a0) 14 12 (st' := []) rfl rfl (fun b22 => ?_) (fun b22 => ?_)
    · have hf := zo_t hf b22
      exact kj14_2 a0 h hf
    · have hf := zo_f hf b22
      refine zq_wg 1 (pc' := 13) (lv' := [some (.int a0), none]) (st' := [.int (1 : Int32)]) (h' := h) rfl ?_
      exact zr_ri rfl rfl rfl hf
set_option maxRecDepth 4000 in
def zx_Tape_wordOf_l2 (sc : zX) : Nat → Int64 → Int32 → zH → (Int32 → zH → Option (Option Nat × zH)) → Option (Option Nat × zH)
  | 0, _, _, _, _ => none
  | n + 1, y1, y2, h3, k23 => zo_b (zq_len sc h3 36) (fun v4 => if v4 ≤ y2 then (some (none, h3)) else (zo_b (zo_rdR h3 36 y2) (fun v7 => zo_b (zo_wC v7) (fun v9 => if (lg_cmp v9 y1) = 0 then (k23 y2 h3) else (zx_Tape_wordOf_l2 sc n y1 (y2 + (1 : Int32)) h3 k23)))))
set_option maxRecDepth 4000 in
def zx_Tape_wordOf (sc : zX) (a0 : Int64) (h : zH) : Option (Option Nat × zH) := zx_Tape_wordOf_l2 sc zo_F a0 (0 : Int32) h (fun (x12 : Int32) (h13 : zH) => zo_b (zo_rdR h13 36 x12) (fun v14 => some ((some v14), h13)))
set_option maxRecDepth 4000 in
theorem zx_Tape_wordOf_l2_ok (sc : zX) (d : Nat) : ∀ (n : Nat) (y1 : Int64) (y2 : Int32) (h3 : zH) (k23 : Int32 → zH → Option (Option Nat × zH)) (ro_ : Option Nat) (ho_ : zH), (∀ (z0 : Int32) (hz : zH), k23 z0 hz = some (ro_, ho_) → zq_wp sc d 23 23 [none, none, some (.int z0)] [] hz (some (va_rf ro_), ho_)) → zx_Tape_wordOf_l2 sc n y1 y2 h3 k23 = some (ro_, ho_) → zq_wp sc d 23 2 [some (.long y1), none, some (.int y2)] [] h3 (some (va_rf ro_), ho_) := by
  intro n
  induction n with
  | zero => intro y1 y2 h3 k23 ro_ ho_ hk23 hf; cases hf
  | succ n ih =>
    intro y1 y2 h3 k23 ro_ ho_ hk23 hf
    refine zq_wg 2 (pc' := 6) (lv' := [some (.long y1), none, some (.int y2)]) (st' := [.ref 36, .int y2]) (h' := h3) rfl ?_
    obtain ⟨v4, e5, hf⟩ := zo_b_s hf
    refine zr_alen rfl e5 ?_
    refine zr_if (v4 ≤ y2) 35 10 (st' := []) rfl rfl (fun b6 => ?_) (fun b6 => ?_)
    · have hf := zo_t hf b6
      refine zq_wg 1 (pc' := 36) (lv' := [some (.long y1), none, some (.int y2)]) (st' := [va_rf none]) (h' := h3) rfl ?_
      exact zr_ra rfl rfl hf
    · have hf := zo_f hf b6
      refine zq_wg 2 (pc' := 14) (lv' := [some (.long y1), none, some (.int y2)]) (st' := [.int y2, .ref 36]) (h' := h3) rfl ?_
      obtain ⟨v7, e8, hf⟩ := zo_b_s hf
      refine zr_aald rfl e8 ?_
      obtain ⟨v9, e10, hf⟩ := zo_b_s hf
      refine zr_wC rfl rfl e10 ?_
      refine zq_wg 2 (pc' := 20) (lv' := [some (.long y1), none, some (.int y2)]) (st' := [.int (lg_cmp v9 y1)]) (h' := h3) rfl ?_
      refine zr_if ((lg_cmp v9 y1) = 0) 23 29 (st' := []) rfl rfl (fun b11 => ?_) (fun b11 => ?_)
      · have hf := zo_t hf b11
        refine zq_fg [none, none, some (.int y2)] (zq_lvle_n (zq_lvle_s (zq_lvle_s zq_lvle_nil))) ?_
        exact hk23 y2 h3 hf
      · have hf := zo_f hf b11
        refine zq_wg 2 (pc' := 2) (lv' := [some (.long y1), none, some (.int (y2 + (1 : Int32)))]) (st' := []) (h' := h3) rfl ?_
        exact ih y1 (y2 + (1 : Int32)) h3 _ _ _ hk23 hf
set_option maxRecDepth 4000 in
theorem zx_Tape_wordOf_ok (sc : zX) (d : Nat) (hd : 0 ≤ d) {a0 : Int64} {h : zH} {ro_ : Option Nat} {ho_ : zH} (hf : zx_Tape_wordOf sc a0 h = some (ro_, ho_)) : zq_wm sc d 23 [.long a0] h (some (va_rf ro_), ho_) := by
  unfold zx_Tape_wordOf at hf
  show zq_wp sc d 23 0 [some (.long a0), none, none] [] h _
  refine zq_wg 2 (pc' := 2) (lv' := [some (.long a0), none, some (.int (0 : Int32))]) (st' := []) (h' := h) rfl ?_
  refine zx_Tape_wordOf_l2_ok sc d zo_F a0 (0 : Int32) h _ _ _ ?_ hf
  · intro x12 h13 hf
    refine zq_wg 2 (pc' := 27) (lv' := [none, none, some (.int x12)]) (st' := [.int x12, .ref 36]) (h' := h13) rfl ?_
    obtain ⟨v14, e15, hf⟩ := zo_b_s hf
    refine zr_aald rfl e15 ?_
    exact zr_ra rfl rfl hf
set_option maxRecDepth 4000 in
def zx_Tape_step_l5 (sc : zX) : Nat → Nat → Int32 → zH → (Nat → Int32 → zH → Option (Unit × zH)) → Option (Unit × zH)
  | 0, _, _, _, _ => none
  | n + 1, y3, y4, h5, k31 => zo_b (zo_gI h5 5 y3 1) (fun v6 => if v6 ≤ y4 then (k31 y3 y4 h5) else (zo_v h5 y3 5 (zx_Tape_signAt sc y3 y4 h5) (fun v10 h9 => zo_c (zx_Tape_typeOf sc v10 h9) (fun v14 h13 => if v14 = (4 : Int32) then (zx_Tape_step_l5 sc n y3 (y4 + (1 : Int32)) h13 k31) else (k31 y3 y4 h13)))))
set_option maxRecDepth 4000 in
def zx_Tape_step_l134 (sc : zX) : Nat → Nat → Int32 → Int32 → Int32 → zH → (Nat → Int32 → zH → Option (Unit × zH)) → Option (Unit × zH)
  | 0, _, _, _, _, _, _ => none
  | n + 1, y54, y55, y56, y57, h58, k183 => zo_b (zo_gI h58 5 y54 1) (fun v59 => if v59 ≤ y55 then (k183 y54 y55 h58) else (zo_v h58 y54 5 (zx_Tape_signAt sc y54 y55 h58) (fun v63 h62 => zo_c (zx_Tape_typeOf sc v63 h62) (fun v67 h66 => zo_b (zo_gI h66 5 y54 2) (fun v69 => if v67 = v69 then (zo_b (zo_gL h66 5 y54 4) (fun v72 => zo_v h66 y54 5 (zx_Tape_signAt sc y54 y55 h66) (fun v75 h74 => zo_b (zo_pL h74 5 y54 4 ((v72 * y56.toInt64) + (v75 - y57).toInt64)) (fun h78 => zx_Tape_step_l134 sc n y54 (y55 + (1 : Int32)) y56 y57 h78 k183)))) else (k183 y54 y55 h66))))))
set_option maxRecDepth 4000 in
def zx_Tape_step (sc : zX) (a0 : Nat) (h : zH) : Option (Unit × zH) := zo_b (zo_gI h 5 a0 8) (fun v1 => zx_Tape_step_l5 sc zo_F a0 v1 h (fun (x17 : Nat) (x18 : Int32) (h19 : zH) => zo_b (zo_pI h19 5 x17 7 x18) (fun h20 => zo_v h20 x17 5 (zx_Tape_signAt sc x17 x18 h20) (fun v23 h22 => zo_b (zo_pB h22 5 x17 6 v23) (fun h26 => zo_b (zo_gI h26 5 x17 1) (fun v28 => zo_l (fun (x30 : Nat) (x31 : Int32) (x32 : Nat) (x33 : Int32) (h34 : zH) => zo_b (zo_pI h34 5 x32 2 x33) (fun h35 => zo_b (zo_pR h35 5 x30 3 none) (fun h37 => zo_b (zo_pL h37 5 x30 4 (0 : Int64)) (fun h39 => zo_b (zo_pI h39 5 x30 8 (x31 + (1 : Int32))) (fun h41 => zo_b (zo_gI h41 5 x30 2) (fun v43 => zo_l (fun (x45 : Nat) (x46 : Int32) (h47 : zH) => zo_b (zo_gI h47 5 x45 2) (fun v48 => zo_l (if v48 = (1 : Int32) then (27 : Int32) else (10 : Int32)) (fun (x50 : Int32) => zo_b (zo_gI h47 5 x45 2) (fun v51 => zo_l (if v51 = (1 : Int32) then (96 : Int32) else (48 : Int32)) (fun (x53 : Int32) => zx_Tape_step_l134 sc zo_F x45 x46 x50 x53 h47 (fun (x80 : Nat) (x81 : Int32) (h82 : zH) => zo_b (zo_pI h82 5 x80 8 x81) (fun h83 => zo_b (zo_gI h83 5 x80 7) (fun v85 => zo_b (zo_gI h83 5 x80 2) (fun v87 => zo_l (if v87 = (1 : Int32) then (8 : Int32) else (4 : Int32)) (fun (x89 : Int32) => if (x81 - v85) ≤ x89 then (zo_b (zo_gI h83 5 x80 2) (fun v91 => if v91 = (1 : Int32) then (zo_b (zo_gL h83 5 x80 4) (fun v94 => zo_c (zx_Tape_wordOf sc v94 h83) (fun v97 h96 => zo_b (zo_pR h96 5 x80 3 v97) (fun h99 => some ((), h99))))) else (some ((), h83)))) else (zo_b (zo_pI h83 5 x80 2 (5 : Int32)) (fun h101 => some ((), h101))))))))))))) (fun j102_47 => if v43 = (1 : Int32) then (j102_47 x30 x31 h41) else (zo_b (zo_gI h41 5 x30 2) (fun v107 => if v107 = (2 : Int32) then (j102_47 x30 x31 h41) else (some ((), h41))))))))))) (fun j65_34 => if v28 ≤ x18 then (j65_34 x17 x18 x17 (0 : Int32) h26) else (zo_b (zo_gI h26 5 x17 6) (fun v111 => zo_c (zx_Tape_typeOf sc v111 h26) (fun v114 h113 => j65_34 x17 x18 x17 v114 h113))))))))))
set_option maxRecDepth 4000 in
theorem zx_Tape_step_l5_ok (sc : zX) (d : Nat) (hd : 0 ≤ d) : ∀ (n : Nat) (y3 : Nat) (y4 : Int32) (h5 : zH) (k31 : Nat → Int32 → zH → Option (Unit × zH)) (ro_ : Unit) (ho_ : zH), (∀ (z0 : Nat) (z1 : Int32) (hz : zH), k31 z0 z1 hz = some (ro_, ho_) → zq_wp sc (d + 1) 20 31 [some (.ref z0), some (.int z1), none, none] [] hz (none, ho_)) → zx_Tape_step_l5 sc n y3 y4 h5 k31 = some (ro_, ho_) → zq_wp sc (d + 1) 20 5 [some (.ref y3), some (.int y4), none, none] [] h5 (none, ho_) := by
  intro n
  induction n with
  | zero => intro y3 y4 h5 k31 ro_ ho_ hk31 hf; cases hf
  | succ n ih =>
    intro y3 y4 h5 k31 ro_ ho_ hk31 hf
    refine zq_wg 2 (pc' := 7) (lv' := [some (.ref y3), some (.int y4), none, none]) (st' := [.ref y3, .int y4]) (h' := h5) rfl ?_
    obtain ⟨v6, e7, hf⟩ := zo_b_s hf
    refine zr_gI rfl rfl (by decide) rfl e7 ?_
    refine zr_if (v6 ≤ y4) 31 13 (st' := []) rfl rfl (fun b8 => ?_) (fun b8 => ?_)
    · have hf := zo_t hf b8
      exact hk31 y3 y4 h5 hf
    · have hf := zo_f hf b8
      refine zq_wg 2 (pc' := 15) (lv' := [some (.ref y3), some (.int y4), none, none]) (st' := [.int y4, .ref y3]) (h' := h5) rfl ?_
      obtain ⟨e12, v10, h9, e11, hf⟩ := zo_v_s hf
      refine zr_cv zq_m21 [.int y4] [] rfl rfl rfl rfl rfl (Nat.le_of_ble_eq_true rfl) (Nat.le_of_ble_eq_true rfl) e12 (zx_Tape_signAt_ok sc d (by omega) e11) ?_
      refine zq_wg 0 (pc' := 18) (lv' := [some (.ref y3), some (.int y4), none, none]) (st' := [.int v10]) (h' := h9) rfl ?_
      obtain ⟨v14, h13, e15, hf⟩ := zo_c_s hf
      refine zr_cs zq_m22 [.int v10] [] rfl rfl (by decide) rfl rfl rfl (Nat.le_of_ble_eq_true rfl) (Nat.le_of_ble_eq_true rfl) (zx_Tape_typeOf_ok sc d (by omega) e15) ?_
      refine zq_wg 0 (pc' := 21) (lv' := [some (.ref y3), some (.int y4), none, none]) (st' := [.int v14]) (h' := h13) rfl ?_
      refine zq_wg 1 (pc' := 22) (lv' := [some (.ref y3), some (.int y4), none, none]) (st' := [.int (4 : Int32), .int v14]) (h' := h13) rfl ?_
      refine zr_if (v14 = (4 : Int32)) 25 31 (st' := []) rfl rfl (fun b16 => ?_) (fun b16 => ?_)
      · have hf := zo_t hf b16
        refine zq_wg 2 (pc' := 5) (lv' := [some (.ref y3), some (.int (y4 + (1 : Int32))), none, none]) (st' := []) (h' := h13) rfl ?_
        exact ih y3 (y4 + (1 : Int32)) h13 _ _ _ hk31 hf
      · have hf := zo_f hf b16
        exact hk31 y3 y4 h13 hf
set_option maxRecDepth 4000 in
theorem zx_Tape_step_l134_ok (sc : zX) (d : Nat) (hd : 0 ≤ d) : ∀ (n : Nat) (y54 : Nat) (y55 : Int32) (y56 : Int32) (y57 : Int32) (h58 : zH) (k183 : Nat → Int32 → zH → Option (Unit × zH)) (ro_ : Unit) (ho_ : zH), (∀ (z0 : Nat) (z1 : Int32) (hz : zH), k183 z0 z1 hz = some (ro_, ho_) → zq_wp sc (d + 1) 20 183 [some (.ref z0), some (.int z1), none, none] [] hz (none, ho_)) → zx_Tape_step_l134 sc n y54 y55 y56 y57 h58 k183 = some (ro_, ho_) → zq_wp sc (d + 1) 20 134 [some (.ref y54), some (.int y55), some (.int y56), some (.int y57)] [] h58 (none, ho_) := by
  intro n
  induction n with
  | zero => intro y54 y55 y56 y57 h58 k183 ro_ ho_ hk183 hf; cases hf
  | succ n ih =>
    intro y54 y55 y56 y57 h58 k183 ro_ ho_ hk183 hf
    refine zq_wg 2 (pc' := 136) (lv' := [some (.ref y54), some (.int y55), some (.int y56), some (.int y57)]) (st' := [.ref y54, .int y55]) (h' := h58) rfl ?_
    obtain ⟨v59, e60, hf⟩ := zo_b_s hf
    refine zr_gI rfl rfl (by decide) rfl e60 ?_
    refine zr_if (v59 ≤ y55) 183 142 (st' := []) rfl rfl (fun b61 => ?_) (fun b61 => ?_)
    · have hf := zo_t hf b61
      refine zq_fg [some (.ref y54), some (.int y55), none, none] (zq_lvle_s (zq_lvle_s (zq_lvle_n (zq_lvle_n zq_lvle_nil)))) ?_
      exact hk183 y54 y55 h58 hf
    · have hf := zo_f hf b61
      refine zq_wg 2 (pc' := 144) (lv' := [some (.ref y54), some (.int y55), some (.int y56), some (.int y57)]) (st' := [.int y55, .ref y54]) (h' := h58) rfl ?_
      obtain ⟨e65, v63, h62, e64, hf⟩ := zo_v_s hf
      refine zr_cv zq_m21 [.int y55] [] rfl rfl rfl rfl rfl (Nat.le_of_ble_eq_true rfl) (Nat.le_of_ble_eq_true rfl) e65 (zx_Tape_signAt_ok sc d (by omega) e64) ?_
      refine zq_wg 0 (pc' := 147) (lv' := [some (.ref y54), some (.int y55), some (.int y56), some (.int y57)]) (st' := [.int v63]) (h' := h62) rfl ?_
      obtain ⟨v67, h66, e68, hf⟩ := zo_c_s hf
      refine zr_cs zq_m22 [.int v63] [] rfl rfl (by decide) rfl rfl rfl (Nat.le_of_ble_eq_true rfl) (Nat.le_of_ble_eq_true rfl) (zx_Tape_typeOf_ok sc d (by omega) e68) ?_
      refine zq_wg 0 (pc' := 150) (lv' := [some (.ref y54), some (.int y55), some (.int y56), some (.int y57)]) (st' := [.int v67]) (h' := h66) rfl ?_
      refine zq_wg 1 (pc' := 151) (lv' := [some (.ref y54), some (.int y55), some (.int y56), some (.int y57)]) (st' := [.ref y54, .int v67]) (h' := h66) rfl ?_
      obtain ⟨v69, e70, hf⟩ := zo_b_s hf
      refine zr_gI rfl rfl (by decide) rfl e70 ?_
      refine zr_if (v67 = v69) 157 183 (st' := []) rfl rfl (fun b71 => ?_) (fun b71 => ?_)
      · have hf := zo_t hf b71
        refine zq_wg 2 (pc' := 159) (lv' := [some (.ref y54), some (.int y55), some (.int y56), some (.int y57)]) (st' := [.ref y54, .ref y54]) (h' := h66) rfl ?_
        obtain ⟨v72, e73, hf⟩ := zo_b_s hf
        refine zr_gL rfl rfl (by decide) rfl e73 ?_
        refine zq_wg 5 (pc' := 167) (lv' := [some (.ref y54), some (.int y55), some (.int y56), some (.int y57)]) (st' := [.int y55, .ref y54, .long (v72 * y56.toInt64), .ref y54]) (h' := h66) rfl ?_
        obtain ⟨e77, v75, h74, e76, hf⟩ := zo_v_s hf
        refine zr_cv zq_m21 [.int y55] [.long (v72 * y56.toInt64), .ref y54] rfl rfl rfl rfl rfl (Nat.le_of_ble_eq_true rfl) (Nat.le_of_ble_eq_true rfl) e77 (zx_Tape_signAt_ok sc d (by omega) e76) ?_
        refine zq_wg 0 (pc' := 170) (lv' := [some (.ref y54), some (.int y55), some (.int y56), some (.int y57)]) (st' := [.int v75, .long (v72 * y56.toInt64), .ref y54]) (h' := h74) rfl ?_
        refine zq_wg 4 (pc' := 174) (lv' := [some (.ref y54), some (.int y55), some (.int y56), some (.int y57)]) (st' := [.long ((v72 * y56.toInt64) + (v75 - y57).toInt64), .ref y54]) (h' := h74) rfl ?_
        obtain ⟨h78, e79, hf⟩ := zo_b_s hf
        refine zr_pL rfl rfl (by decide) rfl rfl e79 ?_
        refine zq_wg 2 (pc' := 134) (lv' := [some (.ref y54), some (.int (y55 + (1 : Int32))), some (.int y56), some (.int y57)]) (st' := []) (h' := h78) rfl ?_
        exact ih y54 (y55 + (1 : Int32)) y56 y57 h78 _ _ _ hk183 hf
      · have hf := zo_f hf b71
        refine zq_fg [some (.ref y54), some (.int y55), none, none] (zq_lvle_s (zq_lvle_s (zq_lvle_n (zq_lvle_n zq_lvle_nil)))) ?_
        exact hk183 y54 y55 h66 hf
set_option maxRecDepth 4000 in
theorem zx_Tape_step_ok (sc : zX) (d : Nat) (hd : 1 ≤ d) {a0 : Nat} {h : zH} {ro_ : Unit} {ho_ : zH} (hf : zx_Tape_step sc a0 h = some (ro_, ho_)) : zq_wm sc d 20 [.ref a0] h (none, ho_) := by
  unfold zx_Tape_step at hf
  obtain ⟨d, rfl⟩ : ∃ d', d = d' + 1 := ⟨d - 1, by omega⟩
  have hd : 0 ≤ d := by omega
  show zq_wp sc (d + 1) 20 0 [some (.ref a0), none, none, none] [] h _
  refine zq_wg 1 (pc' := 1) (lv' := [some (.ref a0), none, none, none]) (st' := [.ref a0]) (h' := h) rfl ?_
  obtain ⟨v1, e2, hf⟩ := zo_b_s hf
  refine zr_gI rfl rfl (by decide) rfl e2 ?_
  refine zq_wg 1 (pc' := 5) (lv' := [some (.ref a0), some (.int v1), none, none]) (st' := []) (h' := h) rfl ?_
  refine zx_Tape_step_l5_ok sc d hd zo_F a0 v1 h _ _ _ ?_ hf
  · intro x17 x18 h19 hf
    refine zq_wg 2 (pc' := 33) (lv' := [some (.ref x17), some (.int x18), none, none]) (st' := [.int x18, .ref x17]) (h' := h19) rfl ?_
    obtain ⟨h20, e21, hf⟩ := zo_b_s hf
    refine zr_pI rfl rfl (by decide) rfl rfl e21 ?_
    refine zq_wg 3 (pc' := 39) (lv' := [some (.ref x17), some (.int x18), none, none]) (st' := [.int x18, .ref x17, .ref x17]) (h' := h20) rfl ?_
    obtain ⟨e25, v23, h22, e24, hf⟩ := zo_v_s hf
    refine zr_cv zq_m21 [.int x18] [.ref x17] rfl rfl rfl rfl rfl (Nat.le_of_ble_eq_true rfl) (Nat.le_of_ble_eq_true rfl) e25 (zx_Tape_signAt_ok sc d (by omega) e24) ?_
    refine zq_wg 0 (pc' := 42) (lv' := [some (.ref x17), some (.int x18), none, none]) (st' := [.int v23, .ref x17]) (h' := h22) rfl ?_
    obtain ⟨h26, e27, hf⟩ := zo_b_s hf
    refine zr_pB rfl rfl (by decide) rfl rfl e27 ?_
    refine zq_wg 3 (pc' := 48) (lv' := [some (.ref x17), some (.int x18), none, none]) (st' := [.ref x17, .int x18, .ref x17]) (h' := h26) rfl ?_
    obtain ⟨v28, e29, hf⟩ := zo_b_s hf
    refine zr_gI rfl rfl (by decide) rfl e29 ?_
    obtain ⟨j65_34, hjj65_34, hf⟩ := zo_lj hf
    have kj65_34 : ∀ (x30 : Nat) (x31 : Int32) (x32 : Nat) (x33 : Int32) (h34 : zH), j65_34 x30 x31 x32 x33 h34 = some (ro_, ho_) → zq_wp sc (d + 1) 20 65 [some (.ref x30), some (.int x31), none, none] [.int x33, .ref x32] h34 (none, ho_) := by
      intro x30 x31 x32 x33 h34 hf
      rw [hjj65_34] at hf
      obtain ⟨h35, e36, hf⟩ := zo_b_s hf
      refine zr_pI rfl rfl (by decide) rfl rfl e36 ?_
      refine zq_wg 2 (pc' := 70) (lv' := [some (.ref x30), some (.int x31), none, none]) (st' := [va_rf none, .ref x30]) (h' := h35) rfl ?_
      obtain ⟨h37, e38, hf⟩ := zo_b_s hf
      refine zr_pR rfl rfl (by decide) rfl rfl e38 ?_
      refine zq_wg 2 (pc' := 75) (lv' := [some (.ref x30), some (.int x31), none, none]) (st' := [.long (0 : Int64), .ref x30]) (h' := h37) rfl ?_
      obtain ⟨h39, e40, hf⟩ := zo_b_s hf
      refine zr_pL rfl rfl (by decide) rfl rfl e40 ?_
      refine zq_wg 4 (pc' := 82) (lv' := [some (.ref x30), some (.int x31), none, none]) (st' := [.int (x31 + (1 : Int32)), .ref x30]) (h' := h39) rfl ?_
      obtain ⟨h41, e42, hf⟩ := zo_b_s hf
      refine zr_pI rfl rfl (by decide) rfl rfl e42 ?_
      refine zq_wg 1 (pc' := 86) (lv' := [some (.ref x30), some (.int x31), none, none]) (st' := [.ref x30]) (h' := h41) rfl ?_
      obtain ⟨v43, e44, hf⟩ := zo_b_s hf
      refine zr_gI rfl rfl (by decide) rfl e44 ?_
      refine zq_wg 1 (pc' := 90) (lv' := [some (.ref x30), some (.int x31), none, none]) (st' := [.int (1 : Int32), .int v43]) (h' := h41) rfl ?_
      obtain ⟨j102_47, hjj102_47, hf⟩ := zo_lj hf
      have kj102_47 : ∀ (x45 : Nat) (x46 : Int32) (h47 : zH), j102_47 x45 x46 h47 = some (ro_, ho_) → zq_wp sc (d + 1) 20 102 [some (.ref x45), some (.int x46), none, none] [] h47 (none, ho_) := by
        intro x45 x46 h47 hf
        rw [hjj102_47] at hf
        refine zq_wg 1 (pc' := 103) (lv' := [some (.ref x45), some (.int x46), none, none]) (st' := [.ref x45]) (h' := h47) rfl ?_
        obtain ⟨v48, e49, hf⟩ := zo_b_s hf
        refine zr_gI rfl rfl (by decide) rfl e49 ?_
        refine zq_wg 1 (pc' := 107) (lv' := [some (.ref x45), some (.int x46), none, none]) (st' := [.int (1 : Int32), .int v48]) (h' := h47) rfl ?_
        obtain ⟨g117_50, hg117_50, hf⟩ := zo_lx hf
        have kg117_50 : ∀ (x50 : Int32), g117_50 x50 = some (ro_, ho_) → zq_wp sc (d + 1) 20 117 [some (.ref x45), some (.int x46), none, none] [.int x50] h47 (none, ho_) := by
          intro x50 hf
          rw [hg117_50] at hf
          refine zq_wg 2 (pc' := 119) (lv' := [some (.ref x45), some (.int x46), some (.int x50), none]) (st' := [.ref x45]) (h' := h47) rfl ?_
          obtain ⟨v51, e52, hf⟩ := zo_b_s hf
          refine zr_gI rfl rfl (by decide) rfl e52 ?_
          refine zq_wg 1 (pc' := 123) (lv' := [some (.ref x45), some (.int x46), some (.int x50), none]) (st' := [.int (1 : Int32), .int v51]) (h' := h47) rfl ?_
          obtain ⟨g133_53, hg133_53, hf⟩ := zo_lx hf
          have kg133_53 : ∀ (x53 : Int32), g133_53 x53 = some (ro_, ho_) → zq_wp sc (d + 1) 20 133 [some (.ref x45), some (.int x46), some (.int x50), none] [.int x53] h47 (none, ho_) := by
            intro x53 hf
            rw [hg133_53] at hf
            refine zq_wg 1 (pc' := 134) (lv' := [some (.ref x45), some (.int x46), some (.int x50), some (.int x53)]) (st' := []) (h' := h47) rfl ?_
            refine zx_Tape_step_l134_ok sc d hd zo_F x45 x46 x50 x53 h47 _ _ _ ?_ hf
            · intro x80 x81 h82 hf
              refine zq_wg 2 (pc' := 185) (lv' := [some (.ref x80), some (.int x81), none, none]) (st' := [.int x81, .ref x80]) (h' := h82) rfl ?_
              obtain ⟨h83, e84, hf⟩ := zo_b_s hf
              refine zr_pI rfl rfl (by decide) rfl rfl e84 ?_
              refine zq_wg 2 (pc' := 190) (lv' := [some (.ref x80), some (.int x81), none, none]) (st' := [.ref x80, .int x81]) (h' := h83) rfl ?_
              obtain ⟨v85, e86, hf⟩ := zo_b_s hf
              refine zr_gI rfl rfl (by decide) rfl e86 ?_
              refine zq_wg 2 (pc' := 195) (lv' := [some (.ref x80), some (.int x81), none, none]) (st' := [.ref x80, .int (x81 - v85)]) (h' := h83) rfl ?_
              obtain ⟨v87, e88, hf⟩ := zo_b_s hf
              refine zr_gI rfl rfl (by decide) rfl e88 ?_
              refine zq_wg 1 (pc' := 199) (lv' := [some (.ref x80), some (.int x81), none, none]) (st' := [.int (1 : Int32), .int v87, .int (x81 - v85)]) (h' := h83) rfl ?_
              obtain ⟨g208_89, hg208_89, hf⟩ := zo_lx hf
              have kg208_89 : ∀ (x89 : Int32), g208_89 x89 = some (ro_, ho_) → zq_wp sc (d + 1) 20 208 [some (.ref x80), some (.int x81), none, none] [.int x89, .int (x81 - v85)] h83 (none, ho_) := by
                intro x89 hf
                rw [hg208_89] at hf
                refine zr_if ((x81 - v85) ≤ x89) 219 211 (st' := []) rfl rfl (fun b90 => ?_) (fun b90 => ?_)
                · have hf := zo_t hf b90
                  refine zq_wg 1 (pc' := 220) (lv' := [some (.ref x80), some (.int x81), none, none]) (st' := [.ref x80]) (h' := h83) rfl ?_
                  obtain ⟨v91, e92, hf⟩ := zo_b_s hf
                  refine zr_gI rfl rfl (by decide) rfl e92 ?_
                  refine zq_wg 1 (pc' := 224) (lv' := [some (.ref x80), some (.int x81), none, none]) (st' := [.int (1 : Int32), .int v91]) (h' := h83) rfl ?_
                  refine zr_if (v91 = (1 : Int32)) 227 238 (st' := []) rfl rfl (fun b93 => ?_) (fun b93 => ?_)
                  · have hf := zo_t hf b93
                    refine zq_wg 2 (pc' := 229) (lv' := [some (.ref x80), some (.int x81), none, none]) (st' := [.ref x80, .ref x80]) (h' := h83) rfl ?_
                    obtain ⟨v94, e95, hf⟩ := zo_b_s hf
                    refine zr_gL rfl rfl (by decide) rfl e95 ?_
                    obtain ⟨v97, h96, e98, hf⟩ := zo_c_s hf
                    refine zr_cs zq_m23 [.long v94] [.ref x80] rfl rfl (by decide) rfl rfl rfl (Nat.le_of_ble_eq_true rfl) (Nat.le_of_ble_eq_true rfl) (zx_Tape_wordOf_ok sc d (by omega) e98) ?_
                    refine zq_wg 0 (pc' := 235) (lv' := [some (.ref x80), some (.int x81), none, none]) (st' := [va_rf v97, .ref x80]) (h' := h96) rfl ?_
                    obtain ⟨h99, e100, hf⟩ := zo_b_s hf
                    refine zr_pR rfl rfl (by decide) rfl rfl e100 ?_
                    exact zr_rv rfl rfl hf
                  · have hf := zo_f hf b93
                    exact zr_rv rfl rfl hf
                · have hf := zo_f hf b90
                  refine zq_wg 2 (pc' := 213) (lv' := [some (.ref x80), some (.int x81), none, none]) (st' := [.int (5 : Int32), .ref x80]) (h' := h83) rfl ?_
                  obtain ⟨h101, e102, hf⟩ := zo_b_s hf
                  refine zr_pI rfl rfl (by decide) rfl rfl e102 ?_
                  refine zq_wg 1 (pc' := 238) (lv' := [some (.ref x80), some (.int x81), none, none]) (st' := []) (h' := h101) rfl ?_
                  exact zr_rv rfl rfl hf
              refine zr_if (v87 = (1 : Int32)) 202 207 (st' := [.int (x81 - v85)]) rfl rfl (fun b103 => ?_) (fun b103 => ?_)
              · have hf := zo_lt hf b103
                refine zq_wg 2 (pc' := 208) (lv' := [some (.ref x80), some (.int x81), none, none]) (st' := [.int (8 : Int32), .int (x81 - v85)]) (h' := h83) rfl ?_
                exact kg208_89 _ hf
              · have hf := zo_lf hf b103
                refine zq_wg 1 (pc' := 208) (lv' := [some (.ref x80), some (.int x81), none, none]) (st' := [.int (4 : Int32), .int (x81 - v85)]) (h' := h83) rfl ?_
                exact kg208_89 _ hf
          refine zr_if (v51 = (1 : Int32)) 126 131 (st' := []) rfl rfl (fun b104 => ?_) (fun b104 => ?_)
          · have hf := zo_lt hf b104
            refine zq_wg 2 (pc' := 133) (lv' := [some (.ref x45), some (.int x46), some (.int x50), none]) (st' := [.int (96 : Int32)]) (h' := h47) rfl ?_
            exact kg133_53 _ hf
          · have hf := zo_lf hf b104
            refine zq_wg 1 (pc' := 133) (lv' := [some (.ref x45), some (.int x46), some (.int x50), none]) (st' := [.int (48 : Int32)]) (h' := h47) rfl ?_
            exact kg133_53 _ hf
        refine zr_if (v48 = (1 : Int32)) 110 115 (st' := []) rfl rfl (fun b105 => ?_) (fun b105 => ?_)
        · have hf := zo_lt hf b105
          refine zq_wg 2 (pc' := 117) (lv' := [some (.ref x45), some (.int x46), none, none]) (st' := [.int (27 : Int32)]) (h' := h47) rfl ?_
          exact kg117_50 _ hf
        · have hf := zo_lf hf b105
          refine zq_wg 1 (pc' := 117) (lv' := [some (.ref x45), some (.int x46), none, none]) (st' := [.int (10 : Int32)]) (h' := h47) rfl ?_
          exact kg117_50 _ hf
      refine zr_if (v43 = (1 : Int32)) 102 93 (st' := []) rfl rfl (fun b106 => ?_) (fun b106 => ?_)
      · have hf := zo_t hf b106
        exact kj102_47 x30 x31 h41 hf
      · have hf := zo_f hf b106
        refine zq_wg 1 (pc' := 94) (lv' := [some (.ref x30), some (.int x31), none, none]) (st' := [.ref x30]) (h' := h41) rfl ?_
        obtain ⟨v107, e108, hf⟩ := zo_b_s hf
        refine zr_gI rfl rfl (by decide) rfl e108 ?_
        refine zq_wg 1 (pc' := 98) (lv' := [some (.ref x30), some (.int x31), none, none]) (st' := [.int (2 : Int32), .int v107]) (h' := h41) rfl ?_
        refine zr_if (v107 = (2 : Int32)) 102 101 (st' := []) rfl rfl (fun b109 => ?_) (fun b109 => ?_)
        · have hf := zo_t hf b109
          exact kj102_47 x30 x31 h41 hf
        · have hf := zo_f hf b109
          exact zr_rv rfl rfl hf
    refine zr_if (v28 ≤ x18) 64 54 (st' := [.ref x17]) rfl rfl (fun b110 => ?_) (fun b110 => ?_)
    · have hf := zo_t hf b110
      refine zq_wg 1 (pc' := 65) (lv' := [some (.ref x17), some (.int x18), none, none]) (st' := [.int (0 : Int32), .ref x17]) (h' := h26) rfl ?_
      exact kj65_34 x17 x18 x17 (0 : Int32) h26 hf
    · have hf := zo_f hf b110
      refine zq_wg 1 (pc' := 55) (lv' := [some (.ref x17), some (.int x18), none, none]) (st' := [.ref x17, .ref x17]) (h' := h26) rfl ?_
      obtain ⟨v111, e112, hf⟩ := zo_b_s hf
      refine zr_gI rfl rfl (by decide) rfl e112 ?_
      obtain ⟨v114, h113, e115, hf⟩ := zo_c_s hf
      refine zr_cs zq_m22 [.int v111] [.ref x17] rfl rfl (by decide) rfl rfl rfl (Nat.le_of_ble_eq_true rfl) (Nat.le_of_ble_eq_true rfl) (zx_Tape_typeOf_ok sc d (by omega) e115) ?_
      refine zq_wg 0 (pc' := 61) (lv' := [some (.ref x17), some (.int x18), none, none]) (st' := [.int v114, .ref x17]) (h' := h113) rfl ?_
      refine zq_wg 1 (pc' := 65) (lv' := [some (.ref x17), some (.int x18), none, none]) (st' := [.int v114, .ref x17]) (h' := h113) rfl ?_
      exact kj65_34 x17 x18 x17 v114 h113 hf
set_option maxRecDepth 4000 in
def zx_Tape_startReading (sc : zX) (a0 : Nat) (h : zH) : Option (Unit × zH) := zo_b (zo_pI h 5 a0 8 (0 : Int32)) (fun h1 => zo_b (zo_pI h1 5 a0 9 (0 : Int32)) (fun h3 => zo_v h3 a0 5 (zx_Tape_step sc a0 h3) (fun w6 h5 => some ((), h5))))
set_option maxRecDepth 4000 in
theorem zx_Tape_startReading_ok (sc : zX) (d : Nat) (hd : 2 ≤ d) {a0 : Nat} {h : zH} {ro_ : Unit} {ho_ : zH} (hf : zx_Tape_startReading sc a0 h = some (ro_, ho_)) : zq_wm sc d 19 [.ref a0] h (none, ho_) := by
  unfold zx_Tape_startReading at hf
  obtain ⟨d, rfl⟩ : ∃ d', d = d' + 1 := ⟨d - 1, by omega⟩
  have hd : 1 ≤ d := by omega
  show zq_wp sc (d + 1) 19 0 [some (.ref a0)] [] h _
  refine zq_wg 2 (pc' := 2) (lv' := [some (.ref a0)]) (st' := [.int (0 : Int32), .ref a0]) (h' := h) rfl ?_
  obtain ⟨h1, e2, hf⟩ := zo_b_s hf
  refine zr_pI rfl rfl (by decide) rfl rfl e2 ?_
  refine zq_wg 2 (pc' := 7) (lv' := [some (.ref a0)]) (st' := [.int (0 : Int32), .ref a0]) (h' := h1) rfl ?_
  obtain ⟨h3, e4, hf⟩ := zo_b_s hf
  refine zr_pI rfl rfl (by decide) rfl rfl e4 ?_
  refine zq_wg 1 (pc' := 11) (lv' := [some (.ref a0)]) (st' := [.ref a0]) (h' := h3) rfl ?_
  obtain ⟨e8, w6, h5, e7, hf⟩ := zo_v_s hf
  refine zr_cv zq_m20 [] [] rfl rfl rfl rfl rfl (Nat.le_of_ble_eq_true rfl) (Nat.le_of_ble_eq_true rfl) e8 (zx_Tape_step_ok sc d (by omega) e7) ?_
  refine zq_wg 0 (pc' := 14) (lv' := [some (.ref a0)]) (st' := []) (h' := h5) rfl ?_
  exact zr_rv rfl rfl hf
set_option maxRecDepth 4000 in
def zx_Tape_wrong (sc : zX) (a0 : Nat) (a1 : Int32) (h : zH) : Option (Int32 × zH) := zo_b (zo_gI h 5 a0 7) (fun v1 => zo_b (zo_pI h 5 a0 9 (a1 + ((16 : Int32) * v1))) (fun h3 => some ((0 : Int32), h3)))
set_option maxRecDepth 4000 in
theorem zx_Tape_wrong_ok (sc : zX) (d : Nat) (hd : 0 ≤ d) {a0 : Nat} {a1 : Int32} {h : zH} {ro_ : Int32} {ho_ : zH} (hf : zx_Tape_wrong sc a0 a1 h = some (ro_, ho_)) : zq_wm sc d 26 [.ref a0, .int a1] h (some (.int ro_), ho_) := by
  unfold zx_Tape_wrong at hf
  show zq_wp sc d 26 0 [some (.ref a0), some (.int a1)] [] h _
  refine zq_wg 4 (pc' := 5) (lv' := [some (.ref a0), some (.int a1)]) (st' := [.ref a0, .int (16 : Int32), .int a1, .ref a0]) (h' := h) rfl ?_
  obtain ⟨v1, e2, hf⟩ := zo_b_s hf
  refine zr_gI rfl rfl (by decide) rfl e2 ?_
  refine zq_wg 2 (pc' := 10) (lv' := [some (.ref a0), some (.int a1)]) (st' := [.int (a1 + ((16 : Int32) * v1)), .ref a0]) (h' := h) rfl ?_
  obtain ⟨h3, e4, hf⟩ := zo_b_s hf
  refine zr_pI rfl rfl (by decide) rfl rfl e4 ?_
  refine zq_wg 1 (pc' := 14) (lv' := [some (.ref a0), some (.int a1)]) (st' := [.int (0 : Int32)]) (h' := h3) rfl ?_
  exact zr_ri rfl rfl rfl hf
set_option maxRecDepth 4000 in
def zx_Tape_isName (sc : zX) (a0 : Nat) (h : zH) : Option (Int32 × zH) := zo_b (zo_gI h 5 a0 2) (fun v1 => if v1 = (1 : Int32) then (zo_b (zo_gQ h 5 a0 3) (fun v4 => zo_l (fun  (h6 : zH) => some ((1 : Int32), h6)) (fun j38_6 => if v4 = none then (j38_6  h) else (zo_b (zo_gQ h 5 a0 3) (fun v8 => zo_b v8 (fun a10 => zo_b (zo_wU a10) (fun v11 => if v11 = (5 : Int32) then (j38_6  h) else (zo_b (zo_gQ h 5 a0 3) (fun v14 => zo_b v14 (fun a16 => zo_b (zo_wU a16) (fun v17 => if v17 = (6 : Int32) then (j38_6  h) else (some ((0 : Int32), h))))))))))))) else (some ((0 : Int32), h)))
set_option maxRecDepth 4000 in
theorem zx_Tape_isName_ok (sc : zX) (d : Nat) (hd : 0 ≤ d) {a0 : Nat} {h : zH} {ro_ : Int32} {ho_ : zH} (hf : zx_Tape_isName sc a0 h = some (ro_, ho_)) : zq_wm sc d 28 [.ref a0] h (some (.int ro_), ho_) := by
  unfold zx_Tape_isName at hf
  show zq_wp sc d 28 0 [some (.ref a0)] [] h _
  refine zq_wg 1 (pc' := 1) (lv' := [some (.ref a0)]) (st' := [.ref a0]) (h' := h) rfl ?_
  obtain ⟨v1, e2, hf⟩ := zo_b_s hf
  refine zr_gI rfl rfl (by decide) rfl e2 ?_
  refine zq_wg 1 (pc' := 5) (lv' := [some (.ref a0)]) (st' := [.int (1 : Int32), .int v1]) (h' := h) rfl ?_
  refine zr_if (v1 = (1 : Int32)) 8 42 (st' := []) rfl rfl (fun b3 => ?_) (fun b3 => ?_)
  · have hf := zo_t hf b3
    refine zq_wg 1 (pc' := 9) (lv' := [some (.ref a0)]) (st' := [.ref a0]) (h' := h) rfl ?_
    obtain ⟨v4, e5, hf⟩ := zo_b_s hf
    refine zr_gQ rfl rfl (by decide) rfl e5 ?_
    obtain ⟨j38_6, hjj38_6, hf⟩ := zo_lj hf
    have kj38_6 : ∀  (h6 : zH), j38_6 h6 = some (ro_, ho_) → zq_wp sc d 28 38 [none] [] h6 (some (.int ro_), ho_) := by
      intro h6 hf
      rw [hjj38_6] at hf
      refine zq_wg 2 (pc' := 43) (lv' := [none]) (st' := [.int (1 : Int32)]) (h' := h6) rfl ?_
      exact zr_ri rfl rfl rfl hf
    refine zr_null v4 rfl rfl (fun b7 => ?_) (fun _ b7 => ?_)
    · have hf := zo_t hf b7
      refine zq_fg [none] (zq_lvle_n zq_lvle_nil) ?_
      exact kj38_6  h hf
    · have hf := zo_f hf (by rw [b7]; simp)
      refine zq_wg 1 (pc' := 16) (lv' := [some (.ref a0)]) (st' := [.ref a0]) (h' := h) rfl ?_
      obtain ⟨v8, e9, hf⟩ := zo_b_s hf
      refine zr_gQ rfl rfl (by decide) rfl e9 ?_
      have hf0 := zo_b_s hf
      clear hf
      obtain ⟨a10, rfl, hf⟩ := hf0
      obtain ⟨v11, e12, hf⟩ := zo_b_s hf
      refine zr_wU rfl rfl e12 ?_
      refine zq_wg 1 (pc' := 23) (lv' := [some (.ref a0)]) (st' := [.int (5 : Int32), .int v11]) (h' := h) rfl ?_
      refine zr_if (v11 = (5 : Int32)) 38 26 (st' := []) rfl rfl (fun b13 => ?_) (fun b13 => ?_)
      · have hf := zo_t hf b13
        refine zq_fg [none] (zq_lvle_n zq_lvle_nil) ?_
        exact kj38_6  h hf
      · have hf := zo_f hf b13
        refine zq_wg 1 (pc' := 27) (lv' := [some (.ref a0)]) (st' := [.ref a0]) (h' := h) rfl ?_
        obtain ⟨v14, e15, hf⟩ := zo_b_s hf
        refine zr_gQ rfl rfl (by decide) rfl e15 ?_
        have hf0 := zo_b_s hf
        clear hf
        obtain ⟨a16, rfl, hf⟩ := hf0
        obtain ⟨v17, e18, hf⟩ := zo_b_s hf
        refine zr_wU rfl rfl e18 ?_
        refine zq_wg 1 (pc' := 35) (lv' := [some (.ref a0)]) (st' := [.int (6 : Int32), .int v17]) (h' := h) rfl ?_
        refine zr_if (v17 = (6 : Int32)) 38 42 (st' := []) rfl rfl (fun b19 => ?_) (fun b19 => ?_)
        · have hf := zo_t hf b19
          refine zq_fg [none] (zq_lvle_n zq_lvle_nil) ?_
          exact kj38_6  h hf
        · have hf := zo_f hf b19
          refine zq_wg 1 (pc' := 43) (lv' := [some (.ref a0)]) (st' := [.int (0 : Int32)]) (h' := h) rfl ?_
          exact zr_ri rfl rfl rfl hf
  · have hf := zo_f hf b3
    refine zq_wg 1 (pc' := 43) (lv' := [some (.ref a0)]) (st' := [.int (0 : Int32)]) (h' := h) rfl ?_
    exact zr_ri rfl rfl rfl hf
set_option maxRecDepth 4000 in
def zx_Army_indexOf_l3 (sc : zX) : Nat → Nat → Int32 → Int64 → Int32 → zH → Option (Int32 × zH)
  | 0, _, _, _, _, _ => none
  | n + 1, y1, y2, y3, y4, h5 => if y2 ≤ y4 then (some ((-1 : Int32), h5)) else (zo_b (zq_len sc h5 y1) (fun v7 => if v7 ≤ y4 then (some ((-1 : Int32), h5)) else (zo_b (zq_rdL h5 y1 y4) (fun v10 => if (lg_cmp v10 y3) = 0 then (some (y4, h5)) else (zx_Army_indexOf_l3 sc n y1 y2 y3 (y4 + (1 : Int32)) h5 )))))
set_option maxRecDepth 4000 in
def zx_Army_indexOf (sc : zX) (a0 : Nat) (a1 : Int32) (a2 : Int64) (h : zH) : Option (Int32 × zH) := zx_Army_indexOf_l3 sc zo_F a0 a1 a2 (0 : Int32) h 
set_option maxRecDepth 4000 in
theorem zx_Army_indexOf_l3_ok (sc : zX) (d : Nat) : ∀ (n : Nat) (y1 : Nat) (y2 : Int32) (y3 : Int64) (y4 : Int32) (h5 : zH) (ro_ : Int32) (ho_ : zH),  zx_Army_indexOf_l3 sc n y1 y2 y3 y4 h5  = some (ro_, ho_) → zq_wp sc d 29 3 [some (.ref y1), some (.int y2), some (.long y3), none, some (.int y4)] [] h5 (some (.int ro_), ho_) := by
  intro n
  induction n with
  | zero => intro y1 y2 y3 y4 h5 ro_ ho_ hf; cases hf
  | succ n ih =>
    intro y1 y2 y3 y4 h5 ro_ ho_ hf
    refine zq_wg 2 (pc' := 6) (lv' := [some (.ref y1), some (.int y2), some (.long y3), none, some (.int y4)]) (st' := [.int y2, .int y4]) (h' := h5) rfl ?_
    refine zr_if (y2 ≤ y4) 34 9 (st' := []) rfl rfl (fun b6 => ?_) (fun b6 => ?_)
    · have hf := zo_t hf b6
      refine zq_wg 1 (pc' := 35) (lv' := [some (.ref y1), some (.int y2), some (.long y3), none, some (.int y4)]) (st' := [.int (-1 : Int32)]) (h' := h5) rfl ?_
      exact zr_ri rfl rfl rfl hf
    · have hf := zo_f hf b6
      refine zq_wg 2 (pc' := 12) (lv' := [some (.ref y1), some (.int y2), some (.long y3), none, some (.int y4)]) (st' := [.ref y1, .int y4]) (h' := h5) rfl ?_
      obtain ⟨v7, e8, hf⟩ := zo_b_s hf
      refine zr_alen rfl e8 ?_
      refine zr_if (v7 ≤ y4) 34 16 (st' := []) rfl rfl (fun b9 => ?_) (fun b9 => ?_)
      · have hf := zo_t hf b9
        refine zq_wg 1 (pc' := 35) (lv' := [some (.ref y1), some (.int y2), some (.long y3), none, some (.int y4)]) (st' := [.int (-1 : Int32)]) (h' := h5) rfl ?_
        exact zr_ri rfl rfl rfl hf
      · have hf := zo_f hf b9
        refine zq_wg 2 (pc' := 19) (lv' := [some (.ref y1), some (.int y2), some (.long y3), none, some (.int y4)]) (st' := [.int y4, .ref y1]) (h' := h5) rfl ?_
        obtain ⟨v10, e11, hf⟩ := zo_b_s hf
        refine zr_lald rfl e11 ?_
        refine zq_wg 2 (pc' := 22) (lv' := [some (.ref y1), some (.int y2), some (.long y3), none, some (.int y4)]) (st' := [.int (lg_cmp v10 y3)]) (h' := h5) rfl ?_
        refine zr_if ((lg_cmp v10 y3) = 0) 25 28 (st' := []) rfl rfl (fun b12 => ?_) (fun b12 => ?_)
        · have hf := zo_t hf b12
          refine zq_wg 1 (pc' := 27) (lv' := [some (.ref y1), some (.int y2), some (.long y3), none, some (.int y4)]) (st' := [.int y4]) (h' := h5) rfl ?_
          exact zr_ri rfl rfl rfl hf
        · have hf := zo_f hf b12
          refine zq_wg 2 (pc' := 3) (lv' := [some (.ref y1), some (.int y2), some (.long y3), none, some (.int (y4 + (1 : Int32)))]) (st' := []) (h' := h5) rfl ?_
          exact ih y1 y2 y3 (y4 + (1 : Int32)) h5 _ _ hf
set_option maxRecDepth 4000 in
theorem zx_Army_indexOf_ok (sc : zX) (d : Nat) (hd : 0 ≤ d) {a0 : Nat} {a1 : Int32} {a2 : Int64} {h : zH} {ro_ : Int32} {ho_ : zH} (hf : zx_Army_indexOf sc a0 a1 a2 h = some (ro_, ho_)) : zq_wm sc d 29 [.ref a0, .int a1, .long a2] h (some (.int ro_), ho_) := by
  unfold zx_Army_indexOf at hf
  show zq_wp sc d 29 0 [some (.ref a0), some (.int a1), some (.long a2), none, none] [] h _
  refine zq_wg 2 (pc' := 3) (lv' := [some (.ref a0), some (.int a1), some (.long a2), none, some (.int (0 : Int32))]) (st' := []) (h' := h) rfl ?_
  refine zx_Army_indexOf_l3_ok sc d zo_F a0 a1 a2 (0 : Int32) h _ _ hf
set_option maxRecDepth 4000 in
def zx_Army_manNamed (sc : zX) (a0 : Nat) (a1 : Int64) (h : zH) : Option (Int32 × zH) := zo_b (zo_gR h 0 a0 14) (fun v1 => zo_b (zo_gI h 0 a0 1) (fun v3 => zo_c (zx_Army_indexOf sc v1 v3 a1 h) (fun v6 h5 => some (v6, h5))))
set_option maxRecDepth 4000 in
theorem zx_Army_manNamed_ok (sc : zX) (d : Nat) (hd : 1 ≤ d) {a0 : Nat} {a1 : Int64} {h : zH} {ro_ : Int32} {ho_ : zH} (hf : zx_Army_manNamed sc a0 a1 h = some (ro_, ho_)) : zq_wm sc d 30 [.ref a0, .long a1] h (some (.int ro_), ho_) := by
  unfold zx_Army_manNamed at hf
  obtain ⟨d, rfl⟩ : ∃ d', d = d' + 1 := ⟨d - 1, by omega⟩
  have hd : 0 ≤ d := by omega
  show zq_wp sc (d + 1) 30 0 [some (.ref a0), some (.long a1), none] [] h _
  refine zq_wg 1 (pc' := 1) (lv' := [some (.ref a0), some (.long a1), none]) (st' := [.ref a0]) (h' := h) rfl ?_
  obtain ⟨v1, e2, hf⟩ := zo_b_s hf
  refine zr_gR rfl rfl (by decide) rfl e2 ?_
  refine zq_wg 1 (pc' := 5) (lv' := [some (.ref a0), some (.long a1), none]) (st' := [.ref a0, .ref v1]) (h' := h) rfl ?_
  obtain ⟨v3, e4, hf⟩ := zo_b_s hf
  refine zr_gI rfl rfl (by decide) rfl e4 ?_
  refine zq_wg 1 (pc' := 9) (lv' := [some (.ref a0), some (.long a1), none]) (st' := [.long a1, .int v3, .ref v1]) (h' := h) rfl ?_
  obtain ⟨v6, h5, e7, hf⟩ := zo_c_s hf
  refine zr_cs zq_m29 [.ref v1, .int v3, .long a1] [] rfl rfl (by decide) rfl rfl rfl (Nat.le_of_ble_eq_true rfl) (Nat.le_of_ble_eq_true rfl) (zx_Army_indexOf_ok sc d (by omega) e7) ?_
  refine zq_wg 0 (pc' := 12) (lv' := [some (.ref a0), some (.long a1), none]) (st' := [.int v6]) (h' := h5) rfl ?_
  exact zr_ri rfl rfl rfl hf
set_option maxRecDepth 4000 in
def zx_Army_takeNewName (sc : zX) (a0 : Nat) (a1 : Nat) (h : zH) : Option (Int32 × zH) := zo_v h a1 5 (zx_Tape_isName sc a1 h) (fun v2 h1 => if v2 = 0 then (zo_v h1 a1 5 (zx_Tape_wrong sc a1 (1 : Int32) h1) (fun v7 h6 => zo_rb v7 h6)) else (zo_b (zo_gR h1 0 a0 13) (fun v10 => zo_b (zo_gI h1 0 a0 0) (fun v12 => zo_b (zo_gL h1 5 a1 4) (fun v14 => zo_c (zx_Army_indexOf sc v10 v12 v14 h1) (fun v17 h16 => zo_l (fun (x19 : Nat) (h20 : zH) => zo_v h20 x19 5 (zx_Tape_wrong sc x19 (3 : Int32) h20) (fun v22 h21 => zo_rb v22 h21)) (fun j44_20 => if v17 = (-1 : Int32) then (zo_b (zo_gL h16 5 a1 4) (fun v26 => zo_v h16 a0 0 (zx_Army_manNamed sc a0 v26 h16) (fun v29 h28 => if v29 = (-1 : Int32) then (zo_v h28 a1 5 (zx_Tape_step sc a1 h28) (fun w34 h33 => some ((1 : Int32), h33))) else (j44_20 a1 h28)))) else (j44_20 a1 h16))))))))
set_option maxRecDepth 4000 in
theorem zx_Army_takeNewName_ok (sc : zX) (d : Nat) (hd : 2 ≤ d) {a0 : Nat} {a1 : Nat} {h : zH} {ro_ : Int32} {ho_ : zH} (hf : zx_Army_takeNewName sc a0 a1 h = some (ro_, ho_)) : zq_wm sc d 27 [.ref a0, .ref a1] h (some (.int ro_), ho_) := by
  unfold zx_Army_takeNewName at hf
  obtain ⟨d, rfl⟩ : ∃ d', d = d' + 1 := ⟨d - 1, by omega⟩
  have hd : 1 ≤ d := by omega
  show zq_wp sc (d + 1) 27 0 [some (.ref a0), some (.ref a1)] [] h _
  refine zq_wg 1 (pc' := 1) (lv' := [some (.ref a0), some (.ref a1)]) (st' := [.ref a1]) (h' := h) rfl ?_
  obtain ⟨e4, v2, h1, e3, hf⟩ := zo_v_s hf
  refine zr_cv zq_m28 [] [] rfl rfl rfl rfl rfl (Nat.le_of_ble_eq_true rfl) (Nat.le_of_ble_eq_true rfl) e4 (zx_Tape_isName_ok sc d (by omega) e3) ?_
  refine zq_wg 0 (pc' := 4) (lv' := [some (.ref a0), some (.ref a1)]) (st' := [.int v2]) (h' := h1) rfl ?_
  refine zr_if (v2 = 0) 7 13 (st' := []) rfl rfl (fun b5 => ?_) (fun b5 => ?_)
  · have hf := zo_t hf b5
    refine zq_wg 2 (pc' := 9) (lv' := [some (.ref a0), some (.ref a1)]) (st' := [.int (1 : Int32), .ref a1]) (h' := h1) rfl ?_
    obtain ⟨e9, v7, h6, e8, hf⟩ := zo_v_s hf
    refine zr_cv zq_m26 [.int (1 : Int32)] [] rfl rfl rfl rfl rfl (Nat.le_of_ble_eq_true rfl) (Nat.le_of_ble_eq_true rfl) e9 (zx_Tape_wrong_ok sc d (by omega) e8) ?_
    refine zq_wg 0 (pc' := 12) (lv' := [some (.ref a0), some (.ref a1)]) (st' := [.int v7]) (h' := h6) rfl ?_
    exact zr_rb rfl rfl hf
  · have hf := zo_f hf b5
    refine zq_wg 1 (pc' := 14) (lv' := [some (.ref a0), some (.ref a1)]) (st' := [.ref a0]) (h' := h1) rfl ?_
    obtain ⟨v10, e11, hf⟩ := zo_b_s hf
    refine zr_gR rfl rfl (by decide) rfl e11 ?_
    refine zq_wg 1 (pc' := 18) (lv' := [some (.ref a0), some (.ref a1)]) (st' := [.ref a0, .ref v10]) (h' := h1) rfl ?_
    obtain ⟨v12, e13, hf⟩ := zo_b_s hf
    refine zr_gI rfl rfl (by decide) rfl e13 ?_
    refine zq_wg 1 (pc' := 22) (lv' := [some (.ref a0), some (.ref a1)]) (st' := [.ref a1, .int v12, .ref v10]) (h' := h1) rfl ?_
    obtain ⟨v14, e15, hf⟩ := zo_b_s hf
    refine zr_gL rfl rfl (by decide) rfl e15 ?_
    obtain ⟨v17, h16, e18, hf⟩ := zo_c_s hf
    refine zr_cs zq_m29 [.ref v10, .int v12, .long v14] [] rfl rfl (by decide) rfl rfl rfl (Nat.le_of_ble_eq_true rfl) (Nat.le_of_ble_eq_true rfl) (zx_Army_indexOf_ok sc d (by omega) e18) ?_
    refine zq_wg 0 (pc' := 28) (lv' := [some (.ref a0), some (.ref a1)]) (st' := [.int v17]) (h' := h16) rfl ?_
    refine zq_wg 1 (pc' := 29) (lv' := [some (.ref a0), some (.ref a1)]) (st' := [.int (-1 : Int32), .int v17]) (h' := h16) rfl ?_
    obtain ⟨j44_20, hjj44_20, hf⟩ := zo_lj hf
    have kj44_20 : ∀ (x19 : Nat) (h20 : zH), j44_20 x19 h20 = some (ro_, ho_) → zq_wp sc (d + 1) 27 44 [none, some (.ref x19)] [] h20 (some (.int ro_), ho_) := by
      intro x19 h20 hf
      rw [hjj44_20] at hf
      refine zq_wg 2 (pc' := 46) (lv' := [none, some (.ref x19)]) (st' := [.int (3 : Int32), .ref x19]) (h' := h20) rfl ?_
      obtain ⟨e24, v22, h21, e23, hf⟩ := zo_v_s hf
      refine zr_cv zq_m26 [.int (3 : Int32)] [] rfl rfl rfl rfl rfl (Nat.le_of_ble_eq_true rfl) (Nat.le_of_ble_eq_true rfl) e24 (zx_Tape_wrong_ok sc d (by omega) e23) ?_
      refine zq_wg 0 (pc' := 49) (lv' := [none, some (.ref x19)]) (st' := [.int v22]) (h' := h21) rfl ?_
      exact zr_rb rfl rfl hf
    refine zr_if (v17 = (-1 : Int32)) 32 44 (st' := []) rfl rfl (fun b25 => ?_) (fun b25 => ?_)
    · have hf := zo_t hf b25
      refine zq_wg 2 (pc' := 34) (lv' := [some (.ref a0), some (.ref a1)]) (st' := [.ref a1, .ref a0]) (h' := h16) rfl ?_
      obtain ⟨v26, e27, hf⟩ := zo_b_s hf
      refine zr_gL rfl rfl (by decide) rfl e27 ?_
      obtain ⟨e31, v29, h28, e30, hf⟩ := zo_v_s hf
      refine zr_cv zq_m30 [.long v26] [] rfl rfl rfl rfl rfl (Nat.le_of_ble_eq_true rfl) (Nat.le_of_ble_eq_true rfl) e31 (zx_Army_manNamed_ok sc d (by omega) e30) ?_
      refine zq_wg 0 (pc' := 40) (lv' := [some (.ref a0), some (.ref a1)]) (st' := [.int v29]) (h' := h28) rfl ?_
      refine zq_wg 1 (pc' := 41) (lv' := [some (.ref a0), some (.ref a1)]) (st' := [.int (-1 : Int32), .int v29]) (h' := h28) rfl ?_
      refine zr_if (v29 = (-1 : Int32)) 50 44 (st' := []) rfl rfl (fun b32 => ?_) (fun b32 => ?_)
      · have hf := zo_t hf b32
        refine zq_wg 1 (pc' := 51) (lv' := [some (.ref a0), some (.ref a1)]) (st' := [.ref a1]) (h' := h28) rfl ?_
        obtain ⟨e36, w34, h33, e35, hf⟩ := zo_v_s hf
        refine zr_cv zq_m20 [] [] rfl rfl rfl rfl rfl (Nat.le_of_ble_eq_true rfl) (Nat.le_of_ble_eq_true rfl) e36 (zx_Tape_step_ok sc d (by omega) e35) ?_
        refine zq_wg 0 (pc' := 54) (lv' := [some (.ref a0), some (.ref a1)]) (st' := []) (h' := h33) rfl ?_
        refine zq_wg 1 (pc' := 55) (lv' := [some (.ref a0), some (.ref a1)]) (st' := [.int (1 : Int32)]) (h' := h33) rfl ?_
        exact zr_ri rfl rfl rfl hf
      · have hf := zo_f hf b32
        refine zq_fg [none, some (.ref a1)] (zq_lvle_n (zq_lvle_s zq_lvle_nil)) ?_
        exact kj44_20 a1 h28 hf
    · have hf := zo_f hf b25
      refine zq_fg [none, some (.ref a1)] (zq_lvle_n (zq_lvle_s zq_lvle_nil)) ?_
      exact kj44_20 a1 h16 hf
set_option maxRecDepth 4000 in
def zx_Tape_which (sc : zX) (a0 : Nat) (a1 : Int32) (h : zH) : Option (Int32 × zH) := zo_b (zo_gQ h 5 a0 3) (fun v1 => if v1 = none then (some ((-1 : Int32), h)) else (zo_b (zo_gQ h 5 a0 3) (fun v4 => zo_b v4 (fun a6 => zo_b (zo_wU a6) (fun v7 => if v7 = a1 then (zo_b (zo_gQ h 5 a0 3) (fun v10 => zo_b v10 (fun a12 => zo_b (zo_wW a12) (fun v13 => some (v13, h))))) else (some ((-1 : Int32), h)))))))
set_option maxRecDepth 4000 in
theorem zx_Tape_which_ok (sc : zX) (d : Nat) (hd : 0 ≤ d) {a0 : Nat} {a1 : Int32} {h : zH} {ro_ : Int32} {ho_ : zH} (hf : zx_Tape_which sc a0 a1 h = some (ro_, ho_)) : zq_wm sc d 32 [.ref a0, .int a1] h (some (.int ro_), ho_) := by
  unfold zx_Tape_which at hf
  show zq_wp sc d 32 0 [some (.ref a0), some (.int a1)] [] h _
  refine zq_wg 1 (pc' := 1) (lv' := [some (.ref a0), some (.int a1)]) (st' := [.ref a0]) (h' := h) rfl ?_
  obtain ⟨v1, e2, hf⟩ := zo_b_s hf
  refine zr_gQ rfl rfl (by decide) rfl e2 ?_
  refine zr_null v1 rfl rfl (fun b3 => ?_) (fun _ b3 => ?_)
  · have hf := zo_t hf b3
    refine zq_wg 1 (pc' := 29) (lv' := [some (.ref a0), some (.int a1)]) (st' := [.int (-1 : Int32)]) (h' := h) rfl ?_
    exact zr_ri rfl rfl rfl hf
  · have hf := zo_f hf (by rw [b3]; simp)
    refine zq_wg 1 (pc' := 8) (lv' := [some (.ref a0), some (.int a1)]) (st' := [.ref a0]) (h' := h) rfl ?_
    obtain ⟨v4, e5, hf⟩ := zo_b_s hf
    refine zr_gQ rfl rfl (by decide) rfl e5 ?_
    have hf0 := zo_b_s hf
    clear hf
    obtain ⟨a6, rfl, hf⟩ := hf0
    obtain ⟨v7, e8, hf⟩ := zo_b_s hf
    refine zr_wU rfl rfl e8 ?_
    refine zq_wg 1 (pc' := 15) (lv' := [some (.ref a0), some (.int a1)]) (st' := [.int a1, .int v7]) (h' := h) rfl ?_
    refine zr_if (v7 = a1) 18 28 (st' := []) rfl rfl (fun b9 => ?_) (fun b9 => ?_)
    · have hf := zo_t hf b9
      refine zq_wg 1 (pc' := 19) (lv' := [some (.ref a0), some (.int a1)]) (st' := [.ref a0]) (h' := h) rfl ?_
      obtain ⟨v10, e11, hf⟩ := zo_b_s hf
      refine zr_gQ rfl rfl (by decide) rfl e11 ?_
      have hf0 := zo_b_s hf
      clear hf
      obtain ⟨a12, rfl, hf⟩ := hf0
      obtain ⟨v13, e14, hf⟩ := zo_b_s hf
      refine zr_wW rfl rfl e14 ?_
      refine zq_wg 1 (pc' := 29) (lv' := [some (.ref a0), some (.int a1)]) (st' := [.int v13]) (h' := h) rfl ?_
      exact zr_ri rfl rfl rfl hf
    · have hf := zo_f hf b9
      refine zq_wg 1 (pc' := 29) (lv' := [some (.ref a0), some (.int a1)]) (st' := [.int (-1 : Int32)]) (h' := h) rfl ?_
      exact zr_ri rfl rfl rfl hf
set_option maxRecDepth 4000 in
def zx_Tape_takeWhich (sc : zX) (a0 : Nat) (a1 : Int32) (h : zH) : Option (Int32 × zH) := zo_v h a0 5 (zx_Tape_which sc a0 a1 h) (fun v2 h1 => zo_b (zo_pI h1 5 a0 5 v2) (fun h5 => zo_b (zo_gI h5 5 a0 5) (fun v7 => if v7 = (-1 : Int32) then (zo_v h5 a0 5 (zx_Tape_wrong sc a0 (1 : Int32) h5) (fun v11 h10 => zo_rb v11 h10)) else (zo_v h5 a0 5 (zx_Tape_step sc a0 h5) (fun w15 h14 => some ((1 : Int32), h14))))))
set_option maxRecDepth 4000 in
theorem zx_Tape_takeWhich_ok (sc : zX) (d : Nat) (hd : 2 ≤ d) {a0 : Nat} {a1 : Int32} {h : zH} {ro_ : Int32} {ho_ : zH} (hf : zx_Tape_takeWhich sc a0 a1 h = some (ro_, ho_)) : zq_wm sc d 31 [.ref a0, .int a1] h (some (.int ro_), ho_) := by
  unfold zx_Tape_takeWhich at hf
  obtain ⟨d, rfl⟩ : ∃ d', d = d' + 1 := ⟨d - 1, by omega⟩
  have hd : 1 ≤ d := by omega
  show zq_wp sc (d + 1) 31 0 [some (.ref a0), some (.int a1)] [] h _
  refine zq_wg 3 (pc' := 3) (lv' := [some (.ref a0), some (.int a1)]) (st' := [.int a1, .ref a0, .ref a0]) (h' := h) rfl ?_
  obtain ⟨e4, v2, h1, e3, hf⟩ := zo_v_s hf
  refine zr_cv zq_m32 [.int a1] [.ref a0] rfl rfl rfl rfl rfl (Nat.le_of_ble_eq_true rfl) (Nat.le_of_ble_eq_true rfl) e4 (zx_Tape_which_ok sc d (by omega) e3) ?_
  refine zq_wg 0 (pc' := 6) (lv' := [some (.ref a0), some (.int a1)]) (st' := [.int v2, .ref a0]) (h' := h1) rfl ?_
  obtain ⟨h5, e6, hf⟩ := zo_b_s hf
  refine zr_pI rfl rfl (by decide) rfl rfl e6 ?_
  refine zq_wg 1 (pc' := 10) (lv' := [some (.ref a0), some (.int a1)]) (st' := [.ref a0]) (h' := h5) rfl ?_
  obtain ⟨v7, e8, hf⟩ := zo_b_s hf
  refine zr_gI rfl rfl (by decide) rfl e8 ?_
  refine zq_wg 1 (pc' := 14) (lv' := [some (.ref a0), some (.int a1)]) (st' := [.int (-1 : Int32), .int v7]) (h' := h5) rfl ?_
  refine zr_if (v7 = (-1 : Int32)) 17 23 (st' := []) rfl rfl (fun b9 => ?_) (fun b9 => ?_)
  · have hf := zo_t hf b9
    refine zq_wg 2 (pc' := 19) (lv' := [some (.ref a0), some (.int a1)]) (st' := [.int (1 : Int32), .ref a0]) (h' := h5) rfl ?_
    obtain ⟨e13, v11, h10, e12, hf⟩ := zo_v_s hf
    refine zr_cv zq_m26 [.int (1 : Int32)] [] rfl rfl rfl rfl rfl (Nat.le_of_ble_eq_true rfl) (Nat.le_of_ble_eq_true rfl) e13 (zx_Tape_wrong_ok sc d (by omega) e12) ?_
    refine zq_wg 0 (pc' := 22) (lv' := [some (.ref a0), some (.int a1)]) (st' := [.int v11]) (h' := h10) rfl ?_
    exact zr_rb rfl rfl hf
  · have hf := zo_f hf b9
    refine zq_wg 1 (pc' := 24) (lv' := [some (.ref a0), some (.int a1)]) (st' := [.ref a0]) (h' := h5) rfl ?_
    obtain ⟨e17, w15, h14, e16, hf⟩ := zo_v_s hf
    refine zr_cv zq_m20 [] [] rfl rfl rfl rfl rfl (Nat.le_of_ble_eq_true rfl) (Nat.le_of_ble_eq_true rfl) e17 (zx_Tape_step_ok sc d (by omega) e16) ?_
    refine zq_wg 0 (pc' := 27) (lv' := [some (.ref a0), some (.int a1)]) (st' := []) (h' := h14) rfl ?_
    refine zq_wg 1 (pc' := 28) (lv' := [some (.ref a0), some (.int a1)]) (st' := [.int (1 : Int32)]) (h' := h14) rfl ?_
    exact zr_ri rfl rfl rfl hf
set_option maxRecDepth 4000 in
def zx_Tape_takeWord (sc : zX) (a0 : Nat) (a1 : Option Nat) (h : zH) : Option (Int32 × zH) := zo_b (zo_gQ h 5 a0 3) (fun v1 => if zo_okb v1 = true then if zo_okb a1 = true then if v1 = a1 then (zo_v h a0 5 (zx_Tape_step sc a0 h) (fun w7 h6 => some ((1 : Int32), h6))) else (zo_v h a0 5 (zx_Tape_wrong sc a0 (1 : Int32) h) (fun v11 h10 => zo_rb v11 h10)) else none else none)
set_option maxRecDepth 4000 in
theorem zx_Tape_takeWord_ok (sc : zX) (d : Nat) (hd : 2 ≤ d) {a0 : Nat} {a1 : Option Nat} {h : zH} {ro_ : Int32} {ho_ : zH} (hf : zx_Tape_takeWord sc a0 a1 h = some (ro_, ho_)) : zq_wm sc d 33 [.ref a0, va_rf a1] h (some (.int ro_), ho_) := by
  unfold zx_Tape_takeWord at hf
  obtain ⟨d, rfl⟩ : ∃ d', d = d' + 1 := ⟨d - 1, by omega⟩
  have hd : 1 ≤ d := by omega
  unfold zq_wm
  rw [show zq_ent (zq_maxL 33) [.ref a0, va_rf a1] = [some (.ref a0), some (va_rf a1)] from by cases a1 <;> rfl]
  refine zq_wg 1 (pc' := 1) (lv' := [some (.ref a0), some (va_rf a1)]) (st' := [.ref a0]) (h' := h) rfl ?_
  obtain ⟨v1, e2, hf⟩ := zo_b_s hf
  refine zr_gQ rfl rfl (by decide) rfl e2 ?_
  refine zr_aldQn rfl rfl ?_
  by_cases b4 : zo_okb v1 = true
  case neg => rw [if_neg b4] at hf; cases hf
  have hf := zo_t hf b4
  by_cases b5 : zo_okb a1 = true
  case neg => rw [if_neg b5] at hf; cases hf
  have hf := zo_t hf b5
  refine zr_aeq v1 a1 rfl rfl (zo_okb_ok b4) (zo_okb_ok b5) (fun b3 => ?_) (fun b3 => ?_)
  · have hf := zo_t hf b3
    refine zq_wg 1 (pc' := 15) (lv' := [some (.ref a0), some (va_rf a1)]) (st' := [.ref a0]) (h' := h) rfl ?_
    obtain ⟨e9, w7, h6, e8, hf⟩ := zo_v_s hf
    refine zr_cv zq_m20 [] [] rfl rfl rfl rfl rfl (Nat.le_of_ble_eq_true rfl) (Nat.le_of_ble_eq_true rfl) e9 (zx_Tape_step_ok sc d (by omega) e8) ?_
    refine zq_wg 0 (pc' := 18) (lv' := [some (.ref a0), some (va_rf a1)]) (st' := []) (h' := h6) rfl ?_
    refine zq_wg 1 (pc' := 19) (lv' := [some (.ref a0), some (va_rf a1)]) (st' := [.int (1 : Int32)]) (h' := h6) rfl ?_
    exact zr_ri rfl rfl rfl hf
  · have hf := zo_f hf b3
    refine zq_wg 2 (pc' := 10) (lv' := [some (.ref a0), some (va_rf a1)]) (st' := [.int (1 : Int32), .ref a0]) (h' := h) rfl ?_
    obtain ⟨e13, v11, h10, e12, hf⟩ := zo_v_s hf
    refine zr_cv zq_m26 [.int (1 : Int32)] [] rfl rfl rfl rfl rfl (Nat.le_of_ble_eq_true rfl) (Nat.le_of_ble_eq_true rfl) e13 (zx_Tape_wrong_ok sc d (by omega) e12) ?_
    refine zq_wg 0 (pc' := 13) (lv' := [some (.ref a0), some (va_rf a1)]) (st' := [.int v11]) (h' := h10) rfl ?_
    exact zr_rb rfl rfl hf
set_option maxRecDepth 4000 in
def zx_within (sc : zX) (a0 : Int32) (a1 : Int32) (a2 : Int32) (h : zH) : Option (Int32 × zH) := if a0 < a1 then (some ((0 : Int32), h)) else (if a2 < a0 then (some ((0 : Int32), h)) else (some ((1 : Int32), h)))
set_option maxRecDepth 4000 in
theorem zx_within_ok (sc : zX) (d : Nat) (hd : 0 ≤ d) {a0 : Int32} {a1 : Int32} {a2 : Int32} {h : zH} {ro_ : Int32} {ho_ : zH} (hf : zx_within sc a0 a1 a2 h = some (ro_, ho_)) : zq_wm sc d 35 [.int a0, .int a1, .int a2] h (some (.int ro_), ho_) := by
  unfold zx_within at hf
  show zq_wp sc d 35 0 [some (.int a0), some (.int a1), some (.int a2)] [] h _
  refine zq_wg 2 (pc' := 2) (lv' := [some (.int a0), some (.int a1), some (.int a2)]) (st' := [.int a1, .int a0]) (h' := h) rfl ?_
  refine zr_if (a0 < a1) 14 5 (st' := []) rfl rfl (fun b1 => ?_) (fun b1 => ?_)
  · have hf := zo_t hf b1
    refine zq_wg 1 (pc' := 15) (lv' := [some (.int a0), some (.int a1), some (.int a2)]) (st' := [.int (0 : Int32)]) (h' := h) rfl ?_
    exact zr_ri rfl rfl rfl hf
  · have hf := zo_f hf b1
    refine zq_wg 2 (pc' := 7) (lv' := [some (.int a0), some (.int a1), some (.int a2)]) (st' := [.int a2, .int a0]) (h' := h) rfl ?_
    refine zr_if (a2 < a0) 14 10 (st' := []) rfl rfl (fun b2 => ?_) (fun b2 => ?_)
    · have hf := zo_t hf b2
      refine zq_wg 1 (pc' := 15) (lv' := [some (.int a0), some (.int a1), some (.int a2)]) (st' := [.int (0 : Int32)]) (h' := h) rfl ?_
      exact zr_ri rfl rfl rfl hf
    · have hf := zo_f hf b2
      refine zq_wg 2 (pc' := 15) (lv' := [some (.int a0), some (.int a1), some (.int a2)]) (st' := [.int (1 : Int32)]) (h' := h) rfl ?_
      exact zr_ri rfl rfl rfl hf
set_option maxRecDepth 4000 in
def zx_Tape_takeNumber (sc : zX) (a0 : Nat) (a1 : Int32) (a2 : Int32) (h : zH) : Option (Int32 × zH) := zo_b (zo_gI h 5 a0 2) (fun v1 => if v1 = (2 : Int32) then (zo_b (zo_gL h 5 a0 4) (fun v4 => zo_b (zo_pI h 5 a0 5 v4.toInt32) (fun h6 => zo_b (zo_gI h6 5 a0 5) (fun v8 => zo_c (zx_within sc v8 a1 a2 h6) (fun v11 h10 => if v11 = 0 then (zo_v h10 a0 5 (zx_Tape_wrong sc a0 (4 : Int32) h10) (fun v15 h14 => zo_rb v15 h14)) else (zo_v h10 a0 5 (zx_Tape_step sc a0 h10) (fun w19 h18 => some ((1 : Int32), h18)))))))) else (zo_v h a0 5 (zx_Tape_wrong sc a0 (1 : Int32) h) (fun v23 h22 => zo_rb v23 h22)))
set_option maxRecDepth 4000 in
theorem zx_Tape_takeNumber_ok (sc : zX) (d : Nat) (hd : 2 ≤ d) {a0 : Nat} {a1 : Int32} {a2 : Int32} {h : zH} {ro_ : Int32} {ho_ : zH} (hf : zx_Tape_takeNumber sc a0 a1 a2 h = some (ro_, ho_)) : zq_wm sc d 34 [.ref a0, .int a1, .int a2] h (some (.int ro_), ho_) := by
  unfold zx_Tape_takeNumber at hf
  obtain ⟨d, rfl⟩ : ∃ d', d = d' + 1 := ⟨d - 1, by omega⟩
  have hd : 1 ≤ d := by omega
  show zq_wp sc (d + 1) 34 0 [some (.ref a0), some (.int a1), some (.int a2)] [] h _
  refine zq_wg 1 (pc' := 1) (lv' := [some (.ref a0), some (.int a1), some (.int a2)]) (st' := [.ref a0]) (h' := h) rfl ?_
  obtain ⟨v1, e2, hf⟩ := zo_b_s hf
  refine zr_gI rfl rfl (by decide) rfl e2 ?_
  refine zq_wg 1 (pc' := 5) (lv' := [some (.ref a0), some (.int a1), some (.int a2)]) (st' := [.int (2 : Int32), .int v1]) (h' := h) rfl ?_
  refine zr_if (v1 = (2 : Int32)) 14 8 (st' := []) rfl rfl (fun b3 => ?_) (fun b3 => ?_)
  · have hf := zo_t hf b3
    refine zq_wg 2 (pc' := 16) (lv' := [some (.ref a0), some (.int a1), some (.int a2)]) (st' := [.ref a0, .ref a0]) (h' := h) rfl ?_
    obtain ⟨v4, e5, hf⟩ := zo_b_s hf
    refine zr_gL rfl rfl (by decide) rfl e5 ?_
    refine zq_wg 1 (pc' := 20) (lv' := [some (.ref a0), some (.int a1), some (.int a2)]) (st' := [.int v4.toInt32, .ref a0]) (h' := h) rfl ?_
    obtain ⟨h6, e7, hf⟩ := zo_b_s hf
    refine zr_pI rfl rfl (by decide) rfl rfl e7 ?_
    refine zq_wg 1 (pc' := 24) (lv' := [some (.ref a0), some (.int a1), some (.int a2)]) (st' := [.ref a0]) (h' := h6) rfl ?_
    obtain ⟨v8, e9, hf⟩ := zo_b_s hf
    refine zr_gI rfl rfl (by decide) rfl e9 ?_
    refine zq_wg 2 (pc' := 29) (lv' := [some (.ref a0), some (.int a1), some (.int a2)]) (st' := [.int a2, .int a1, .int v8]) (h' := h6) rfl ?_
    obtain ⟨v11, h10, e12, hf⟩ := zo_c_s hf
    refine zr_cs zq_m35 [.int v8, .int a1, .int a2] [] rfl rfl (by decide) rfl rfl rfl (Nat.le_of_ble_eq_true rfl) (Nat.le_of_ble_eq_true rfl) (zx_within_ok sc d (by omega) e12) ?_
    refine zq_wg 0 (pc' := 32) (lv' := [some (.ref a0), some (.int a1), some (.int a2)]) (st' := [.int v11]) (h' := h10) rfl ?_
    refine zr_if (v11 = 0) 35 41 (st' := []) rfl rfl (fun b13 => ?_) (fun b13 => ?_)
    · have hf := zo_t hf b13
      refine zq_wg 2 (pc' := 37) (lv' := [some (.ref a0), some (.int a1), some (.int a2)]) (st' := [.int (4 : Int32), .ref a0]) (h' := h10) rfl ?_
      obtain ⟨e17, v15, h14, e16, hf⟩ := zo_v_s hf
      refine zr_cv zq_m26 [.int (4 : Int32)] [] rfl rfl rfl rfl rfl (Nat.le_of_ble_eq_true rfl) (Nat.le_of_ble_eq_true rfl) e17 (zx_Tape_wrong_ok sc d (by omega) e16) ?_
      refine zq_wg 0 (pc' := 40) (lv' := [some (.ref a0), some (.int a1), some (.int a2)]) (st' := [.int v15]) (h' := h14) rfl ?_
      exact zr_rb rfl rfl hf
    · have hf := zo_f hf b13
      refine zq_wg 1 (pc' := 42) (lv' := [some (.ref a0), some (.int a1), some (.int a2)]) (st' := [.ref a0]) (h' := h10) rfl ?_
      obtain ⟨e21, w19, h18, e20, hf⟩ := zo_v_s hf
      refine zr_cv zq_m20 [] [] rfl rfl rfl rfl rfl (Nat.le_of_ble_eq_true rfl) (Nat.le_of_ble_eq_true rfl) e21 (zx_Tape_step_ok sc d (by omega) e20) ?_
      refine zq_wg 0 (pc' := 45) (lv' := [some (.ref a0), some (.int a1), some (.int a2)]) (st' := []) (h' := h18) rfl ?_
      refine zq_wg 1 (pc' := 46) (lv' := [some (.ref a0), some (.int a1), some (.int a2)]) (st' := [.int (1 : Int32)]) (h' := h18) rfl ?_
      exact zr_ri rfl rfl rfl hf
  · have hf := zo_f hf b3
    refine zq_wg 2 (pc' := 10) (lv' := [some (.ref a0), some (.int a1), some (.int a2)]) (st' := [.int (1 : Int32), .ref a0]) (h' := h) rfl ?_
    obtain ⟨e25, v23, h22, e24, hf⟩ := zo_v_s hf
    refine zr_cv zq_m26 [.int (1 : Int32)] [] rfl rfl rfl rfl rfl (Nat.le_of_ble_eq_true rfl) (Nat.le_of_ble_eq_true rfl) e25 (zx_Tape_wrong_ok sc d (by omega) e24) ?_
    refine zq_wg 0 (pc' := 13) (lv' := [some (.ref a0), some (.int a1), some (.int a2)]) (st' := [.int v23]) (h' := h22) rfl ?_
    exact zr_rb rfl rfl hf
set_option maxRecDepth 4000 in
def zx_Army_readUnder (sc : zX) (a0 : Nat) (a1 : Nat) (h : zH) : Option (Int32 × zH) := zo_v h a1 5 (zx_Tape_step sc a1 h) (fun w2 h1 => zo_v h1 a1 5 (zx_Tape_isName sc a1 h1) (fun v6 h5 => if v6 = 0 then (zo_v h5 a1 5 (zx_Tape_wrong sc a1 (1 : Int32) h5) (fun v11 h10 => zo_rb v11 h10)) else (zo_b (zo_gR h5 0 a0 13) (fun v14 => zo_b (zo_gI h5 0 a0 0) (fun v16 => zo_b (zo_gL h5 5 a1 4) (fun v18 => zo_c (zx_Army_indexOf sc v14 v16 v18 h5) (fun v21 h20 => if v21 = (-1 : Int32) then (zo_v h20 a1 5 (zx_Tape_wrong sc a1 (2 : Int32) h20) (fun v25 h24 => zo_rb v25 h24)) else (zo_b (zo_gR h20 0 a0 9) (fun v28 => zo_b (zo_gI h20 0 a0 0) (fun v30 => zo_c (zx_put sc v28 v30 v21 h20) (fun w33 h32 => zo_v h32 a1 5 (zx_Tape_step sc a1 h32) (fun w36 h35 => some ((1 : Int32), h35)))))))))))))
set_option maxRecDepth 4000 in
theorem zx_Army_readUnder_ok (sc : zX) (d : Nat) (hd : 2 ≤ d) {a0 : Nat} {a1 : Nat} {h : zH} {ro_ : Int32} {ho_ : zH} (hf : zx_Army_readUnder sc a0 a1 h = some (ro_, ho_)) : zq_wm sc d 36 [.ref a0, .ref a1] h (some (.int ro_), ho_) := by
  unfold zx_Army_readUnder at hf
  obtain ⟨d, rfl⟩ : ∃ d', d = d' + 1 := ⟨d - 1, by omega⟩
  have hd : 1 ≤ d := by omega
  show zq_wp sc (d + 1) 36 0 [some (.ref a0), some (.ref a1), none] [] h _
  refine zq_wg 1 (pc' := 1) (lv' := [some (.ref a0), some (.ref a1), none]) (st' := [.ref a1]) (h' := h) rfl ?_
  obtain ⟨e4, w2, h1, e3, hf⟩ := zo_v_s hf
  refine zr_cv zq_m20 [] [] rfl rfl rfl rfl rfl (Nat.le_of_ble_eq_true rfl) (Nat.le_of_ble_eq_true rfl) e4 (zx_Tape_step_ok sc d (by omega) e3) ?_
  refine zq_wg 0 (pc' := 4) (lv' := [some (.ref a0), some (.ref a1), none]) (st' := []) (h' := h1) rfl ?_
  refine zq_wg 1 (pc' := 5) (lv' := [some (.ref a0), some (.ref a1), none]) (st' := [.ref a1]) (h' := h1) rfl ?_
  obtain ⟨e8, v6, h5, e7, hf⟩ := zo_v_s hf
  refine zr_cv zq_m28 [] [] rfl rfl rfl rfl rfl (Nat.le_of_ble_eq_true rfl) (Nat.le_of_ble_eq_true rfl) e8 (zx_Tape_isName_ok sc d (by omega) e7) ?_
  refine zq_wg 0 (pc' := 8) (lv' := [some (.ref a0), some (.ref a1), none]) (st' := [.int v6]) (h' := h5) rfl ?_
  refine zr_if (v6 = 0) 11 17 (st' := []) rfl rfl (fun b9 => ?_) (fun b9 => ?_)
  · have hf := zo_t hf b9
    refine zq_wg 2 (pc' := 13) (lv' := [some (.ref a0), some (.ref a1), none]) (st' := [.int (1 : Int32), .ref a1]) (h' := h5) rfl ?_
    obtain ⟨e13, v11, h10, e12, hf⟩ := zo_v_s hf
    refine zr_cv zq_m26 [.int (1 : Int32)] [] rfl rfl rfl rfl rfl (Nat.le_of_ble_eq_true rfl) (Nat.le_of_ble_eq_true rfl) e13 (zx_Tape_wrong_ok sc d (by omega) e12) ?_
    refine zq_wg 0 (pc' := 16) (lv' := [some (.ref a0), some (.ref a1), none]) (st' := [.int v11]) (h' := h10) rfl ?_
    exact zr_rb rfl rfl hf
  · have hf := zo_f hf b9
    refine zq_wg 1 (pc' := 18) (lv' := [some (.ref a0), some (.ref a1), none]) (st' := [.ref a0]) (h' := h5) rfl ?_
    obtain ⟨v14, e15, hf⟩ := zo_b_s hf
    refine zr_gR rfl rfl (by decide) rfl e15 ?_
    refine zq_wg 1 (pc' := 22) (lv' := [some (.ref a0), some (.ref a1), none]) (st' := [.ref a0, .ref v14]) (h' := h5) rfl ?_
    obtain ⟨v16, e17, hf⟩ := zo_b_s hf
    refine zr_gI rfl rfl (by decide) rfl e17 ?_
    refine zq_wg 1 (pc' := 26) (lv' := [some (.ref a0), some (.ref a1), none]) (st' := [.ref a1, .int v16, .ref v14]) (h' := h5) rfl ?_
    obtain ⟨v18, e19, hf⟩ := zo_b_s hf
    refine zr_gL rfl rfl (by decide) rfl e19 ?_
    obtain ⟨v21, h20, e22, hf⟩ := zo_c_s hf
    refine zr_cs zq_m29 [.ref v14, .int v16, .long v18] [] rfl rfl (by decide) rfl rfl rfl (Nat.le_of_ble_eq_true rfl) (Nat.le_of_ble_eq_true rfl) (zx_Army_indexOf_ok sc d (by omega) e22) ?_
    refine zq_wg 0 (pc' := 32) (lv' := [some (.ref a0), some (.ref a1), none]) (st' := [.int v21]) (h' := h20) rfl ?_
    refine zq_wg 3 (pc' := 35) (lv' := [some (.ref a0), some (.ref a1), some (.int v21)]) (st' := [.int (-1 : Int32), .int v21]) (h' := h20) rfl ?_
    refine zr_if (v21 = (-1 : Int32)) 38 44 (st' := []) rfl rfl (fun b23 => ?_) (fun b23 => ?_)
    · have hf := zo_t hf b23
      refine zq_wg 2 (pc' := 40) (lv' := [some (.ref a0), some (.ref a1), some (.int v21)]) (st' := [.int (2 : Int32), .ref a1]) (h' := h20) rfl ?_
      obtain ⟨e27, v25, h24, e26, hf⟩ := zo_v_s hf
      refine zr_cv zq_m26 [.int (2 : Int32)] [] rfl rfl rfl rfl rfl (Nat.le_of_ble_eq_true rfl) (Nat.le_of_ble_eq_true rfl) e27 (zx_Tape_wrong_ok sc d (by omega) e26) ?_
      refine zq_wg 0 (pc' := 43) (lv' := [some (.ref a0), some (.ref a1), some (.int v21)]) (st' := [.int v25]) (h' := h24) rfl ?_
      exact zr_rb rfl rfl hf
    · have hf := zo_f hf b23
      refine zq_wg 1 (pc' := 45) (lv' := [some (.ref a0), some (.ref a1), some (.int v21)]) (st' := [.ref a0]) (h' := h20) rfl ?_
      obtain ⟨v28, e29, hf⟩ := zo_b_s hf
      refine zr_gR rfl rfl (by decide) rfl e29 ?_
      refine zq_wg 1 (pc' := 49) (lv' := [some (.ref a0), some (.ref a1), some (.int v21)]) (st' := [.ref a0, .ref v28]) (h' := h20) rfl ?_
      obtain ⟨v30, e31, hf⟩ := zo_b_s hf
      refine zr_gI rfl rfl (by decide) rfl e31 ?_
      refine zq_wg 1 (pc' := 53) (lv' := [some (.ref a0), some (.ref a1), some (.int v21)]) (st' := [.int v21, .int v30, .ref v28]) (h' := h20) rfl ?_
      obtain ⟨w33, h32, e34, hf⟩ := zo_c_s hf
      refine zr_cs zq_m11 [.ref v28, .int v30, .int v21] [] rfl rfl (by decide) rfl rfl rfl (Nat.le_of_ble_eq_true rfl) (Nat.le_of_ble_eq_true rfl) (zx_put_ok sc d (by omega) e34) ?_
      refine zq_wg 0 (pc' := 56) (lv' := [some (.ref a0), some (.ref a1), some (.int v21)]) (st' := []) (h' := h32) rfl ?_
      refine zq_wg 1 (pc' := 57) (lv' := [some (.ref a0), some (.ref a1), some (.int v21)]) (st' := [.ref a1]) (h' := h32) rfl ?_
      obtain ⟨e38, w36, h35, e37, hf⟩ := zo_v_s hf
      refine zr_cv zq_m20 [] [] rfl rfl rfl rfl rfl (Nat.le_of_ble_eq_true rfl) (Nat.le_of_ble_eq_true rfl) e38 (zx_Tape_step_ok sc d (by omega) e37) ?_
      refine zq_wg 0 (pc' := 60) (lv' := [some (.ref a0), some (.ref a1), some (.int v21)]) (st' := []) (h' := h35) rfl ?_
      refine zq_wg 1 (pc' := 61) (lv' := [some (.ref a0), some (.ref a1), some (.int v21)]) (st' := [.int (1 : Int32)]) (h' := h35) rfl ?_
      exact zr_ri rfl rfl rfl hf
set_option maxRecDepth 4000 in
def zx_Army_readPost (sc : zX) (a0 : Nat) (a1 : Nat) (h : zH) : Option (Int32 × zH) := zo_b (zo_gI h 0 a0 0) (fun v1 => zo_l (fun (x3 : Nat) (h4 : zH) => zo_v h4 x3 5 (zx_Tape_wrong sc x3 (5 : Int32) h4) (fun v6 h5 => zo_rb v6 h5)) (fun j16_4 => if v1 < 0 then (j16_4 a1 h) else (zo_b (zo_gI h 0 a0 0) (fun v10 => if v10 < (6 : Int32) then (zo_v h a1 5 (zx_Tape_step sc a1 h) (fun w14 h13 => zo_b (zo_gL h13 5 a1 4) (fun v17 => zo_v h13 a0 0 (zx_Army_takeNewName sc a0 a1 h13) (fun v20 h19 => if v20 = 0 then (some ((0 : Int32), h19)) else (zo_v h19 a1 5 (zx_Tape_takeWhich sc a1 (4 : Int32) h19) (fun v25 h24 => if v25 = 0 then (some ((0 : Int32), h24)) else (zo_b (zo_gR h24 0 a0 7) (fun v29 => zo_b (zo_gI h24 0 a0 0) (fun v31 => zo_b (zo_gI h24 5 a1 5) (fun v33 => zo_c (zx_put sc v29 v31 v33 h24) (fun w36 h35 => zo_v h35 a1 5 (zx_Tape_takeWord sc a1 (some 2) h35) (fun v39 h38 => if v39 = 0 then (some ((0 : Int32), h38)) else (zo_v h38 a1 5 (zx_Tape_takeNumber sc a1 (1 : Int32) (9 : Int32) h38) (fun v44 h43 => if v44 = 0 then (some ((0 : Int32), h43)) else (zo_b (zo_gR h43 0 a0 8) (fun v48 => zo_b (zo_gI h43 0 a0 0) (fun v50 => zo_b (zo_gI h43 5 a1 5) (fun v52 => zo_c (zx_put sc v48 v50 v52 h43) (fun w55 h54 => zo_b (zo_gR h54 0 a0 9) (fun v57 => zo_b (zo_gI h54 0 a0 0) (fun v59 => zo_c (zx_put sc v57 v59 (-1 : Int32) h54) (fun w62 h61 => zo_b (zo_gQ h61 5 a1 3) (fun v64 => zo_l (fun (x66 : Nat) (x67 : Int64) (h68 : zH) => zo_b (zo_gR h68 0 x66 13) (fun v69 => zo_b (zo_gI h68 0 x66 0) (fun v71 => zo_b (zq_wrL h68 v69 v71 x67) (fun h73 => zo_b (zo_gI h73 0 x66 0) (fun v75 => zo_b (zo_pI h73 0 x66 0 (v75 + (1 : Int32))) (fun h77 => some ((1 : Int32), h77))))))) (fun j133_68 => if zo_okb v64 = true then if v64 = (some 3) then (zo_v h61 a0 0 (zx_Army_readUnder sc a0 a1 h61) (fun v82 h81 => if v82 = 0 then (some ((0 : Int32), h81)) else (j133_68 a0 v17 h81))) else (j133_68 a0 v17 h61) else none)))))))))))))))))))))))) else (j16_4 a1 h)))))
set_option maxRecDepth 4000 in
theorem zx_Army_readPost_ok (sc : zX) (d : Nat) (hd : 3 ≤ d) {a0 : Nat} {a1 : Nat} {h : zH} {ro_ : Int32} {ho_ : zH} (hf : zx_Army_readPost sc a0 a1 h = some (ro_, ho_)) : zq_wm sc d 25 [.ref a0, .ref a1] h (some (.int ro_), ho_) := by
  unfold zx_Army_readPost at hf
  obtain ⟨d, rfl⟩ : ∃ d', d = d' + 1 := ⟨d - 1, by omega⟩
  have hd : 2 ≤ d := by omega
  show zq_wp sc (d + 1) 25 0 [some (.ref a0), some (.ref a1), none, none] [] h _
  refine zq_wg 1 (pc' := 1) (lv' := [some (.ref a0), some (.ref a1), none, none]) (st' := [.ref a0]) (h' := h) rfl ?_
  obtain ⟨v1, e2, hf⟩ := zo_b_s hf
  refine zr_gI rfl rfl (by decide) rfl e2 ?_
  obtain ⟨j16_4, hjj16_4, hf⟩ := zo_lj hf
  have kj16_4 : ∀ (x3 : Nat) (h4 : zH), j16_4 x3 h4 = some (ro_, ho_) → zq_wp sc (d + 1) 25 16 [none, some (.ref x3), none, none] [] h4 (some (.int ro_), ho_) := by
    intro x3 h4 hf
    rw [hjj16_4] at hf
    refine zq_wg 2 (pc' := 18) (lv' := [none, some (.ref x3), none, none]) (st' := [.int (5 : Int32), .ref x3]) (h' := h4) rfl ?_
    obtain ⟨e8, v6, h5, e7, hf⟩ := zo_v_s hf
    refine zr_cv zq_m26 [.int (5 : Int32)] [] rfl rfl rfl rfl rfl (Nat.le_of_ble_eq_true rfl) (Nat.le_of_ble_eq_true rfl) e8 (zx_Tape_wrong_ok sc d (by omega) e7) ?_
    refine zq_wg 0 (pc' := 21) (lv' := [none, some (.ref x3), none, none]) (st' := [.int v6]) (h' := h5) rfl ?_
    exact zr_rb rfl rfl hf
  refine zr_if (v1 < 0) 16 7 (st' := []) rfl rfl (fun b9 => ?_) (fun b9 => ?_)
  · have hf := zo_t hf b9
    refine zq_fg [none, some (.ref a1), none, none] (zq_lvle_n (zq_lvle_s (zq_lvle_s (zq_lvle_s zq_lvle_nil)))) ?_
    exact kj16_4 a1 h hf
  · have hf := zo_f hf b9
    refine zq_wg 1 (pc' := 8) (lv' := [some (.ref a0), some (.ref a1), none, none]) (st' := [.ref a0]) (h' := h) rfl ?_
    obtain ⟨v10, e11, hf⟩ := zo_b_s hf
    refine zr_gI rfl rfl (by decide) rfl e11 ?_
    refine zq_wg 1 (pc' := 13) (lv' := [some (.ref a0), some (.ref a1), none, none]) (st' := [.int (6 : Int32), .int v10]) (h' := h) rfl ?_
    refine zr_if (v10 < (6 : Int32)) 22 16 (st' := []) rfl rfl (fun b12 => ?_) (fun b12 => ?_)
    · have hf := zo_t hf b12
      refine zq_wg 1 (pc' := 23) (lv' := [some (.ref a0), some (.ref a1), none, none]) (st' := [.ref a1]) (h' := h) rfl ?_
      obtain ⟨e16, w14, h13, e15, hf⟩ := zo_v_s hf
      refine zr_cv zq_m20 [] [] rfl rfl rfl rfl rfl (Nat.le_of_ble_eq_true rfl) (Nat.le_of_ble_eq_true rfl) e16 (zx_Tape_step_ok sc d (by omega) e15) ?_
      refine zq_wg 0 (pc' := 26) (lv' := [some (.ref a0), some (.ref a1), none, none]) (st' := []) (h' := h13) rfl ?_
      refine zq_wg 1 (pc' := 27) (lv' := [some (.ref a0), some (.ref a1), none, none]) (st' := [.ref a1]) (h' := h13) rfl ?_
      obtain ⟨v17, e18, hf⟩ := zo_b_s hf
      refine zr_gL rfl rfl (by decide) rfl e18 ?_
      refine zq_wg 3 (pc' := 33) (lv' := [some (.ref a0), some (.ref a1), some (.long v17), none]) (st' := [.ref a1, .ref a0]) (h' := h13) rfl ?_
      obtain ⟨e22, v20, h19, e21, hf⟩ := zo_v_s hf
      refine zr_cv zq_m27 [.ref a1] [] rfl rfl rfl rfl rfl (Nat.le_of_ble_eq_true rfl) (Nat.le_of_ble_eq_true rfl) e22 (zx_Army_takeNewName_ok sc d (by omega) e21) ?_
      refine zq_wg 0 (pc' := 36) (lv' := [some (.ref a0), some (.ref a1), some (.long v17), none]) (st' := [.int v20]) (h' := h19) rfl ?_
      refine zr_if (v20 = 0) 47 39 (st' := []) rfl rfl (fun b23 => ?_) (fun b23 => ?_)
      · have hf := zo_t hf b23
        refine zq_wg 1 (pc' := 48) (lv' := [some (.ref a0), some (.ref a1), some (.long v17), none]) (st' := [.int (0 : Int32)]) (h' := h19) rfl ?_
        exact zr_ri rfl rfl rfl hf
      · have hf := zo_f hf b23
        refine zq_wg 2 (pc' := 41) (lv' := [some (.ref a0), some (.ref a1), some (.long v17), none]) (st' := [.int (4 : Int32), .ref a1]) (h' := h19) rfl ?_
        obtain ⟨e27, v25, h24, e26, hf⟩ := zo_v_s hf
        refine zr_cv zq_m31 [.int (4 : Int32)] [] rfl rfl rfl rfl rfl (Nat.le_of_ble_eq_true rfl) (Nat.le_of_ble_eq_true rfl) e27 (zx_Tape_takeWhich_ok sc d (by omega) e26) ?_
        refine zq_wg 0 (pc' := 44) (lv' := [some (.ref a0), some (.ref a1), some (.long v17), none]) (st' := [.int v25]) (h' := h24) rfl ?_
        refine zr_if (v25 = 0) 47 49 (st' := []) rfl rfl (fun b28 => ?_) (fun b28 => ?_)
        · have hf := zo_t hf b28
          refine zq_wg 1 (pc' := 48) (lv' := [some (.ref a0), some (.ref a1), some (.long v17), none]) (st' := [.int (0 : Int32)]) (h' := h24) rfl ?_
          exact zr_ri rfl rfl rfl hf
        · have hf := zo_f hf b28
          refine zq_wg 1 (pc' := 50) (lv' := [some (.ref a0), some (.ref a1), some (.long v17), none]) (st' := [.ref a0]) (h' := h24) rfl ?_
          obtain ⟨v29, e30, hf⟩ := zo_b_s hf
          refine zr_gR rfl rfl (by decide) rfl e30 ?_
          refine zq_wg 1 (pc' := 54) (lv' := [some (.ref a0), some (.ref a1), some (.long v17), none]) (st' := [.ref a0, .ref v29]) (h' := h24) rfl ?_
          obtain ⟨v31, e32, hf⟩ := zo_b_s hf
          refine zr_gI rfl rfl (by decide) rfl e32 ?_
          refine zq_wg 1 (pc' := 58) (lv' := [some (.ref a0), some (.ref a1), some (.long v17), none]) (st' := [.ref a1, .int v31, .ref v29]) (h' := h24) rfl ?_
          obtain ⟨v33, e34, hf⟩ := zo_b_s hf
          refine zr_gI rfl rfl (by decide) rfl e34 ?_
          obtain ⟨w36, h35, e37, hf⟩ := zo_c_s hf
          refine zr_cs zq_m11 [.ref v29, .int v31, .int v33] [] rfl rfl (by decide) rfl rfl rfl (Nat.le_of_ble_eq_true rfl) (Nat.le_of_ble_eq_true rfl) (zx_put_ok sc d (by omega) e37) ?_
          refine zq_wg 0 (pc' := 64) (lv' := [some (.ref a0), some (.ref a1), some (.long v17), none]) (st' := []) (h' := h35) rfl ?_
          refine zq_wg 2 (pc' := 68) (lv' := [some (.ref a0), some (.ref a1), some (.long v17), none]) (st' := [.ref 2, .ref a1]) (h' := h35) rfl ?_
          obtain ⟨e41, v39, h38, e40, hf⟩ := zo_v_s hf
          refine zr_cv zq_m33 [va_rf (some 2)] [] rfl rfl rfl rfl rfl (Nat.le_of_ble_eq_true rfl) (Nat.le_of_ble_eq_true rfl) e41 (zx_Tape_takeWord_ok sc d (by omega) e40) ?_
          refine zq_wg 0 (pc' := 71) (lv' := [some (.ref a0), some (.ref a1), some (.long v17), none]) (st' := [.int v39]) (h' := h38) rfl ?_
          refine zr_if (v39 = 0) 84 74 (st' := []) rfl rfl (fun b42 => ?_) (fun b42 => ?_)
          · have hf := zo_t hf b42
            refine zq_wg 1 (pc' := 85) (lv' := [some (.ref a0), some (.ref a1), some (.long v17), none]) (st' := [.int (0 : Int32)]) (h' := h38) rfl ?_
            exact zr_ri rfl rfl rfl hf
          · have hf := zo_f hf b42
            refine zq_wg 3 (pc' := 78) (lv' := [some (.ref a0), some (.ref a1), some (.long v17), none]) (st' := [.int (9 : Int32), .int (1 : Int32), .ref a1]) (h' := h38) rfl ?_
            obtain ⟨e46, v44, h43, e45, hf⟩ := zo_v_s hf
            refine zr_cv zq_m34 [.int (1 : Int32), .int (9 : Int32)] [] rfl rfl rfl rfl rfl (Nat.le_of_ble_eq_true rfl) (Nat.le_of_ble_eq_true rfl) e46 (zx_Tape_takeNumber_ok sc d (by omega) e45) ?_
            refine zq_wg 0 (pc' := 81) (lv' := [some (.ref a0), some (.ref a1), some (.long v17), none]) (st' := [.int v44]) (h' := h43) rfl ?_
            refine zr_if (v44 = 0) 84 86 (st' := []) rfl rfl (fun b47 => ?_) (fun b47 => ?_)
            · have hf := zo_t hf b47
              refine zq_wg 1 (pc' := 85) (lv' := [some (.ref a0), some (.ref a1), some (.long v17), none]) (st' := [.int (0 : Int32)]) (h' := h43) rfl ?_
              exact zr_ri rfl rfl rfl hf
            · have hf := zo_f hf b47
              refine zq_wg 1 (pc' := 87) (lv' := [some (.ref a0), some (.ref a1), some (.long v17), none]) (st' := [.ref a0]) (h' := h43) rfl ?_
              obtain ⟨v48, e49, hf⟩ := zo_b_s hf
              refine zr_gR rfl rfl (by decide) rfl e49 ?_
              refine zq_wg 1 (pc' := 91) (lv' := [some (.ref a0), some (.ref a1), some (.long v17), none]) (st' := [.ref a0, .ref v48]) (h' := h43) rfl ?_
              obtain ⟨v50, e51, hf⟩ := zo_b_s hf
              refine zr_gI rfl rfl (by decide) rfl e51 ?_
              refine zq_wg 1 (pc' := 95) (lv' := [some (.ref a0), some (.ref a1), some (.long v17), none]) (st' := [.ref a1, .int v50, .ref v48]) (h' := h43) rfl ?_
              obtain ⟨v52, e53, hf⟩ := zo_b_s hf
              refine zr_gI rfl rfl (by decide) rfl e53 ?_
              obtain ⟨w55, h54, e56, hf⟩ := zo_c_s hf
              refine zr_cs zq_m11 [.ref v48, .int v50, .int v52] [] rfl rfl (by decide) rfl rfl rfl (Nat.le_of_ble_eq_true rfl) (Nat.le_of_ble_eq_true rfl) (zx_put_ok sc d (by omega) e56) ?_
              refine zq_wg 0 (pc' := 101) (lv' := [some (.ref a0), some (.ref a1), some (.long v17), none]) (st' := []) (h' := h54) rfl ?_
              refine zq_wg 1 (pc' := 102) (lv' := [some (.ref a0), some (.ref a1), some (.long v17), none]) (st' := [.ref a0]) (h' := h54) rfl ?_
              obtain ⟨v57, e58, hf⟩ := zo_b_s hf
              refine zr_gR rfl rfl (by decide) rfl e58 ?_
              refine zq_wg 1 (pc' := 106) (lv' := [some (.ref a0), some (.ref a1), some (.long v17), none]) (st' := [.ref a0, .ref v57]) (h' := h54) rfl ?_
              obtain ⟨v59, e60, hf⟩ := zo_b_s hf
              refine zr_gI rfl rfl (by decide) rfl e60 ?_
              refine zq_wg 1 (pc' := 110) (lv' := [some (.ref a0), some (.ref a1), some (.long v17), none]) (st' := [.int (-1 : Int32), .int v59, .ref v57]) (h' := h54) rfl ?_
              obtain ⟨w62, h61, e63, hf⟩ := zo_c_s hf
              refine zr_cs zq_m11 [.ref v57, .int v59, .int (-1 : Int32)] [] rfl rfl (by decide) rfl rfl rfl (Nat.le_of_ble_eq_true rfl) (Nat.le_of_ble_eq_true rfl) (zx_put_ok sc d (by omega) e63) ?_
              refine zq_wg 0 (pc' := 113) (lv' := [some (.ref a0), some (.ref a1), some (.long v17), none]) (st' := []) (h' := h61) rfl ?_
              refine zq_wg 1 (pc' := 114) (lv' := [some (.ref a0), some (.ref a1), some (.long v17), none]) (st' := [.ref a1]) (h' := h61) rfl ?_
              obtain ⟨v64, e65, hf⟩ := zo_b_s hf
              refine zr_gQ rfl rfl (by decide) rfl e65 ?_
              refine zq_wg 1 (pc' := 120) (lv' := [some (.ref a0), some (.ref a1), some (.long v17), none]) (st' := [.ref 3, va_rf v64]) (h' := h61) rfl ?_
              obtain ⟨j133_68, hjj133_68, hf⟩ := zo_lj hf
              have kj133_68 : ∀ (x66 : Nat) (x67 : Int64) (h68 : zH), j133_68 x66 x67 h68 = some (ro_, ho_) → zq_wp sc (d + 1) 25 133 [some (.ref x66), none, some (.long x67), none] [] h68 (some (.int ro_), ho_) := by
                intro x66 x67 h68 hf
                rw [hjj133_68] at hf
                refine zq_wg 1 (pc' := 134) (lv' := [some (.ref x66), none, some (.long x67), none]) (st' := [.ref x66]) (h' := h68) rfl ?_
                obtain ⟨v69, e70, hf⟩ := zo_b_s hf
                refine zr_gR rfl rfl (by decide) rfl e70 ?_
                refine zq_wg 1 (pc' := 138) (lv' := [some (.ref x66), none, some (.long x67), none]) (st' := [.ref x66, .ref v69]) (h' := h68) rfl ?_
                obtain ⟨v71, e72, hf⟩ := zo_b_s hf
                refine zr_gI rfl rfl (by decide) rfl e72 ?_
                refine zq_wg 1 (pc' := 142) (lv' := [some (.ref x66), none, some (.long x67), none]) (st' := [.long x67, .int v71, .ref v69]) (h' := h68) rfl ?_
                obtain ⟨h73, e74, hf⟩ := zo_b_s hf
                refine zr_last rfl e74 ?_
                refine zq_wg 2 (pc' := 145) (lv' := [some (.ref x66), none, some (.long x67), none]) (st' := [.ref x66, .ref x66]) (h' := h73) rfl ?_
                obtain ⟨v75, e76, hf⟩ := zo_b_s hf
                refine zr_gI rfl rfl (by decide) rfl e76 ?_
                refine zq_wg 2 (pc' := 150) (lv' := [some (.ref x66), none, some (.long x67), none]) (st' := [.int (v75 + (1 : Int32)), .ref x66]) (h' := h73) rfl ?_
                obtain ⟨h77, e78, hf⟩ := zo_b_s hf
                refine zr_pI rfl rfl (by decide) rfl rfl e78 ?_
                refine zq_wg 1 (pc' := 154) (lv' := [some (.ref x66), none, some (.long x67), none]) (st' := [.int (1 : Int32)]) (h' := h77) rfl ?_
                exact zr_ri rfl rfl rfl hf
              by_cases b80 : zo_okb v64 = true
              case neg => rw [if_neg b80] at hf; cases hf
              have hf := zo_t hf b80
              refine zr_ane v64 (some 3) rfl rfl (zo_okb_ok b80) (zo_okb_ok rfl) (fun b79 => ?_) (fun b79 => ?_)
              · have hf := zo_t hf b79
                refine zq_wg 2 (pc' := 125) (lv' := [some (.ref a0), some (.ref a1), some (.long v17), none]) (st' := [.ref a1, .ref a0]) (h' := h61) rfl ?_
                obtain ⟨e84, v82, h81, e83, hf⟩ := zo_v_s hf
                refine zr_cv zq_m36 [.ref a1] [] rfl rfl rfl rfl rfl (Nat.le_of_ble_eq_true rfl) (Nat.le_of_ble_eq_true rfl) e84 (zx_Army_readUnder_ok sc d (by omega) e83) ?_
                refine zq_wg 0 (pc' := 128) (lv' := [some (.ref a0), some (.ref a1), some (.long v17), none]) (st' := [.int v82]) (h' := h81) rfl ?_
                refine zr_if (v82 = 0) 131 133 (st' := []) rfl rfl (fun b85 => ?_) (fun b85 => ?_)
                · have hf := zo_t hf b85
                  refine zq_wg 1 (pc' := 132) (lv' := [some (.ref a0), some (.ref a1), some (.long v17), none]) (st' := [.int (0 : Int32)]) (h' := h81) rfl ?_
                  exact zr_ri rfl rfl rfl hf
                · have hf := zo_f hf b85
                  refine zq_fg [some (.ref a0), none, some (.long v17), none] (zq_lvle_s (zq_lvle_n (zq_lvle_s (zq_lvle_s zq_lvle_nil)))) ?_
                  exact kj133_68 a0 v17 h81 hf
              · have hf := zo_f hf b79
                refine zq_fg [some (.ref a0), none, some (.long v17), none] (zq_lvle_s (zq_lvle_n (zq_lvle_s (zq_lvle_s zq_lvle_nil)))) ?_
                exact kj133_68 a0 v17 h61 hf
    · have hf := zo_f hf b12
      refine zq_fg [none, some (.ref a1), none, none] (zq_lvle_n (zq_lvle_s (zq_lvle_s (zq_lvle_s zq_lvle_nil)))) ?_
      exact kj16_4 a1 h hf
set_option maxRecDepth 4000 in
def zx_Tape_isSign (sc : zX) (a0 : Nat) (a1 : Int32) (h : zH) : Option (Int32 × zH) := zo_b (zo_gI h 5 a0 2) (fun v1 => if v1 = (3 : Int32) then (zo_b (zo_gI h 5 a0 6) (fun v4 => if v4 = a1 then (some ((1 : Int32), h)) else (some ((0 : Int32), h)))) else (some ((0 : Int32), h)))
set_option maxRecDepth 4000 in
theorem zx_Tape_isSign_ok (sc : zX) (d : Nat) (hd : 0 ≤ d) {a0 : Nat} {a1 : Int32} {h : zH} {ro_ : Int32} {ho_ : zH} (hf : zx_Tape_isSign sc a0 a1 h = some (ro_, ho_)) : zq_wm sc d 38 [.ref a0, .int a1] h (some (.int ro_), ho_) := by
  unfold zx_Tape_isSign at hf
  show zq_wp sc d 38 0 [some (.ref a0), some (.int a1)] [] h _
  refine zq_wg 1 (pc' := 1) (lv' := [some (.ref a0), some (.int a1)]) (st' := [.ref a0]) (h' := h) rfl ?_
  obtain ⟨v1, e2, hf⟩ := zo_b_s hf
  refine zr_gI rfl rfl (by decide) rfl e2 ?_
  refine zq_wg 1 (pc' := 5) (lv' := [some (.ref a0), some (.int a1)]) (st' := [.int (3 : Int32), .int v1]) (h' := h) rfl ?_
  refine zr_if (v1 = (3 : Int32)) 8 20 (st' := []) rfl rfl (fun b3 => ?_) (fun b3 => ?_)
  · have hf := zo_t hf b3
    refine zq_wg 1 (pc' := 9) (lv' := [some (.ref a0), some (.int a1)]) (st' := [.ref a0]) (h' := h) rfl ?_
    obtain ⟨v4, e5, hf⟩ := zo_b_s hf
    refine zr_gI rfl rfl (by decide) rfl e5 ?_
    refine zq_wg 1 (pc' := 13) (lv' := [some (.ref a0), some (.int a1)]) (st' := [.int a1, .int v4]) (h' := h) rfl ?_
    refine zr_if (v4 = a1) 16 20 (st' := []) rfl rfl (fun b6 => ?_) (fun b6 => ?_)
    · have hf := zo_t hf b6
      refine zq_wg 2 (pc' := 21) (lv' := [some (.ref a0), some (.int a1)]) (st' := [.int (1 : Int32)]) (h' := h) rfl ?_
      exact zr_ri rfl rfl rfl hf
    · have hf := zo_f hf b6
      refine zq_wg 1 (pc' := 21) (lv' := [some (.ref a0), some (.int a1)]) (st' := [.int (0 : Int32)]) (h' := h) rfl ?_
      exact zr_ri rfl rfl rfl hf
  · have hf := zo_f hf b3
    refine zq_wg 1 (pc' := 21) (lv' := [some (.ref a0), some (.int a1)]) (st' := [.int (0 : Int32)]) (h' := h) rfl ?_
    exact zr_ri rfl rfl rfl hf
set_option maxRecDepth 4000 in
def zx_Tape_takeSign (sc : zX) (a0 : Nat) (a1 : Int32) (h : zH) : Option (Int32 × zH) := zo_v h a0 5 (zx_Tape_isSign sc a0 a1 h) (fun v2 h1 => if v2 = 0 then (zo_v h1 a0 5 (zx_Tape_wrong sc a0 (1 : Int32) h1) (fun v7 h6 => zo_rb v7 h6)) else (zo_v h1 a0 5 (zx_Tape_step sc a0 h1) (fun w11 h10 => some ((1 : Int32), h10))))
set_option maxRecDepth 4000 in
theorem zx_Tape_takeSign_ok (sc : zX) (d : Nat) (hd : 2 ≤ d) {a0 : Nat} {a1 : Int32} {h : zH} {ro_ : Int32} {ho_ : zH} (hf : zx_Tape_takeSign sc a0 a1 h = some (ro_, ho_)) : zq_wm sc d 37 [.ref a0, .int a1] h (some (.int ro_), ho_) := by
  unfold zx_Tape_takeSign at hf
  obtain ⟨d, rfl⟩ : ∃ d', d = d' + 1 := ⟨d - 1, by omega⟩
  have hd : 1 ≤ d := by omega
  show zq_wp sc (d + 1) 37 0 [some (.ref a0), some (.int a1)] [] h _
  refine zq_wg 2 (pc' := 2) (lv' := [some (.ref a0), some (.int a1)]) (st' := [.int a1, .ref a0]) (h' := h) rfl ?_
  obtain ⟨e4, v2, h1, e3, hf⟩ := zo_v_s hf
  refine zr_cv zq_m38 [.int a1] [] rfl rfl rfl rfl rfl (Nat.le_of_ble_eq_true rfl) (Nat.le_of_ble_eq_true rfl) e4 (zx_Tape_isSign_ok sc d (by omega) e3) ?_
  refine zq_wg 0 (pc' := 5) (lv' := [some (.ref a0), some (.int a1)]) (st' := [.int v2]) (h' := h1) rfl ?_
  refine zr_if (v2 = 0) 8 14 (st' := []) rfl rfl (fun b5 => ?_) (fun b5 => ?_)
  · have hf := zo_t hf b5
    refine zq_wg 2 (pc' := 10) (lv' := [some (.ref a0), some (.int a1)]) (st' := [.int (1 : Int32), .ref a0]) (h' := h1) rfl ?_
    obtain ⟨e9, v7, h6, e8, hf⟩ := zo_v_s hf
    refine zr_cv zq_m26 [.int (1 : Int32)] [] rfl rfl rfl rfl rfl (Nat.le_of_ble_eq_true rfl) (Nat.le_of_ble_eq_true rfl) e9 (zx_Tape_wrong_ok sc d (by omega) e8) ?_
    refine zq_wg 0 (pc' := 13) (lv' := [some (.ref a0), some (.int a1)]) (st' := [.int v7]) (h' := h6) rfl ?_
    exact zr_rb rfl rfl hf
  · have hf := zo_f hf b5
    refine zq_wg 1 (pc' := 15) (lv' := [some (.ref a0), some (.int a1)]) (st' := [.ref a0]) (h' := h1) rfl ?_
    obtain ⟨e13, w11, h10, e12, hf⟩ := zo_v_s hf
    refine zr_cv zq_m20 [] [] rfl rfl rfl rfl rfl (Nat.le_of_ble_eq_true rfl) (Nat.le_of_ble_eq_true rfl) e13 (zx_Tape_step_ok sc d (by omega) e12) ?_
    refine zq_wg 0 (pc' := 18) (lv' := [some (.ref a0), some (.int a1)]) (st' := []) (h' := h10) rfl ?_
    refine zq_wg 1 (pc' := 19) (lv' := [some (.ref a0), some (.int a1)]) (st' := [.int (1 : Int32)]) (h' := h10) rfl ?_
    exact zr_ri rfl rfl rfl hf
set_option maxRecDepth 4000 in
def zx_Army_readMan (sc : zX) (a0 : Nat) (a1 : Nat) (h : zH) : Option (Int32 × zH) := zo_b (zo_gI h 0 a0 1) (fun v1 => zo_l (fun (x3 : Nat) (h4 : zH) => zo_v h4 x3 5 (zx_Tape_wrong sc x3 (5 : Int32) h4) (fun v6 h5 => zo_rb v6 h5)) (fun j16_4 => if v1 < 0 then (j16_4 a1 h) else (zo_b (zo_gI h 0 a0 1) (fun v10 => if v10 < (6 : Int32) then (zo_v h a1 5 (zx_Tape_step sc a1 h) (fun w14 h13 => zo_b (zo_gL h13 5 a1 4) (fun v17 => zo_v h13 a0 0 (zx_Army_takeNewName sc a0 a1 h13) (fun v20 h19 => if v20 = 0 then (some ((0 : Int32), h19)) else (zo_v h19 a1 5 (zx_Tape_takeWord sc a1 (some 4) h19) (fun v25 h24 => if v25 = 0 then (some ((0 : Int32), h24)) else (zo_v h24 a1 5 (zx_Tape_takeNumber sc a1 (0 : Int32) (9 : Int32) h24) (fun v30 h29 => if v30 = 0 then (some ((0 : Int32), h29)) else (zo_b (zo_gR h29 0 a0 10) (fun v34 => zo_b (zo_gI h29 0 a0 1) (fun v36 => zo_b (zo_gI h29 5 a1 5) (fun v38 => zo_c (zx_put sc v34 v36 v38 h29) (fun w41 h40 => zo_v h40 a1 5 (zx_Tape_takeWord sc a1 (some 5) h40) (fun v44 h43 => if v44 = 0 then (some ((0 : Int32), h43)) else (zo_v h43 a1 5 (zx_Tape_takeNumber sc a1 (0 : Int32) (9 : Int32) h43) (fun v49 h48 => if v49 = 0 then (some ((0 : Int32), h48)) else (zo_b (zo_gR h48 0 a0 11) (fun v53 => zo_b (zo_gI h48 0 a0 1) (fun v55 => zo_b (zo_gI h48 5 a1 5) (fun v57 => zo_c (zx_put sc v53 v55 v57 h48) (fun w60 h59 => zo_v h59 a1 5 (zx_Tape_takeWord sc a1 (some 6) h59) (fun v63 h62 => if v63 = 0 then (some ((0 : Int32), h62)) else (zo_v h62 a1 5 (zx_Tape_takeNumber sc a1 (0 : Int32) (999 : Int32) h62) (fun v68 h67 => if v68 = 0 then (some ((0 : Int32), h67)) else (zo_b (zo_gR h67 0 a0 12) (fun v72 => zo_b (zo_gI h67 0 a0 1) (fun v74 => zo_b (zo_gI h67 5 a1 5) (fun v76 => zo_c (zx_put sc v72 v74 v76 h67) (fun w79 h78 => zo_b (zo_gR h78 0 a0 14) (fun v81 => zo_b (zo_gI h78 0 a0 1) (fun v83 => zo_b (zq_wrL h78 v81 v83 v17) (fun h85 => zo_b (zo_gI h85 0 a0 1) (fun v87 => zo_b (zo_pI h85 0 a0 1 (v87 + (1 : Int32))) (fun h89 => some ((1 : Int32), h89))))))))))))))))))))))))))))))))))) else (j16_4 a1 h)))))
set_option maxRecDepth 4000 in
theorem zx_Army_readMan_ok (sc : zX) (d : Nat) (hd : 3 ≤ d) {a0 : Nat} {a1 : Nat} {h : zH} {ro_ : Int32} {ho_ : zH} (hf : zx_Army_readMan sc a0 a1 h = some (ro_, ho_)) : zq_wm sc d 39 [.ref a0, .ref a1] h (some (.int ro_), ho_) := by
  unfold zx_Army_readMan at hf
  obtain ⟨d, rfl⟩ : ∃ d', d = d' + 1 := ⟨d - 1, by omega⟩
  have hd : 2 ≤ d := by omega
  show zq_wp sc (d + 1) 39 0 [some (.ref a0), some (.ref a1), none, none] [] h _
  refine zq_wg 1 (pc' := 1) (lv' := [some (.ref a0), some (.ref a1), none, none]) (st' := [.ref a0]) (h' := h) rfl ?_
  obtain ⟨v1, e2, hf⟩ := zo_b_s hf
  refine zr_gI rfl rfl (by decide) rfl e2 ?_
  obtain ⟨j16_4, hjj16_4, hf⟩ := zo_lj hf
  have kj16_4 : ∀ (x3 : Nat) (h4 : zH), j16_4 x3 h4 = some (ro_, ho_) → zq_wp sc (d + 1) 39 16 [none, some (.ref x3), none, none] [] h4 (some (.int ro_), ho_) := by
    intro x3 h4 hf
    rw [hjj16_4] at hf
    refine zq_wg 2 (pc' := 18) (lv' := [none, some (.ref x3), none, none]) (st' := [.int (5 : Int32), .ref x3]) (h' := h4) rfl ?_
    obtain ⟨e8, v6, h5, e7, hf⟩ := zo_v_s hf
    refine zr_cv zq_m26 [.int (5 : Int32)] [] rfl rfl rfl rfl rfl (Nat.le_of_ble_eq_true rfl) (Nat.le_of_ble_eq_true rfl) e8 (zx_Tape_wrong_ok sc d (by omega) e7) ?_
    refine zq_wg 0 (pc' := 21) (lv' := [none, some (.ref x3), none, none]) (st' := [.int v6]) (h' := h5) rfl ?_
    exact zr_rb rfl rfl hf
  refine zr_if (v1 < 0) 16 7 (st' := []) rfl rfl (fun b9 => ?_) (fun b9 => ?_)
  · have hf := zo_t hf b9
    refine zq_fg [none, some (.ref a1), none, none] (zq_lvle_n (zq_lvle_s (zq_lvle_s (zq_lvle_s zq_lvle_nil)))) ?_
    exact kj16_4 a1 h hf
  · have hf := zo_f hf b9
    refine zq_wg 1 (pc' := 8) (lv' := [some (.ref a0), some (.ref a1), none, none]) (st' := [.ref a0]) (h' := h) rfl ?_
    obtain ⟨v10, e11, hf⟩ := zo_b_s hf
    refine zr_gI rfl rfl (by decide) rfl e11 ?_
    refine zq_wg 1 (pc' := 13) (lv' := [some (.ref a0), some (.ref a1), none, none]) (st' := [.int (6 : Int32), .int v10]) (h' := h) rfl ?_
    refine zr_if (v10 < (6 : Int32)) 22 16 (st' := []) rfl rfl (fun b12 => ?_) (fun b12 => ?_)
    · have hf := zo_t hf b12
      refine zq_wg 1 (pc' := 23) (lv' := [some (.ref a0), some (.ref a1), none, none]) (st' := [.ref a1]) (h' := h) rfl ?_
      obtain ⟨e16, w14, h13, e15, hf⟩ := zo_v_s hf
      refine zr_cv zq_m20 [] [] rfl rfl rfl rfl rfl (Nat.le_of_ble_eq_true rfl) (Nat.le_of_ble_eq_true rfl) e16 (zx_Tape_step_ok sc d (by omega) e15) ?_
      refine zq_wg 0 (pc' := 26) (lv' := [some (.ref a0), some (.ref a1), none, none]) (st' := []) (h' := h13) rfl ?_
      refine zq_wg 1 (pc' := 27) (lv' := [some (.ref a0), some (.ref a1), none, none]) (st' := [.ref a1]) (h' := h13) rfl ?_
      obtain ⟨v17, e18, hf⟩ := zo_b_s hf
      refine zr_gL rfl rfl (by decide) rfl e18 ?_
      refine zq_wg 3 (pc' := 33) (lv' := [some (.ref a0), some (.ref a1), some (.long v17), none]) (st' := [.ref a1, .ref a0]) (h' := h13) rfl ?_
      obtain ⟨e22, v20, h19, e21, hf⟩ := zo_v_s hf
      refine zr_cv zq_m27 [.ref a1] [] rfl rfl rfl rfl rfl (Nat.le_of_ble_eq_true rfl) (Nat.le_of_ble_eq_true rfl) e22 (zx_Army_takeNewName_ok sc d (by omega) e21) ?_
      refine zq_wg 0 (pc' := 36) (lv' := [some (.ref a0), some (.ref a1), some (.long v17), none]) (st' := [.int v20]) (h' := h19) rfl ?_
      refine zr_if (v20 = 0) 59 39 (st' := []) rfl rfl (fun b23 => ?_) (fun b23 => ?_)
      · have hf := zo_t hf b23
        refine zq_wg 1 (pc' := 60) (lv' := [some (.ref a0), some (.ref a1), some (.long v17), none]) (st' := [.int (0 : Int32)]) (h' := h19) rfl ?_
        exact zr_ri rfl rfl rfl hf
      · have hf := zo_f hf b23
        refine zq_wg 2 (pc' := 43) (lv' := [some (.ref a0), some (.ref a1), some (.long v17), none]) (st' := [.ref 4, .ref a1]) (h' := h19) rfl ?_
        obtain ⟨e27, v25, h24, e26, hf⟩ := zo_v_s hf
        refine zr_cv zq_m33 [va_rf (some 4)] [] rfl rfl rfl rfl rfl (Nat.le_of_ble_eq_true rfl) (Nat.le_of_ble_eq_true rfl) e27 (zx_Tape_takeWord_ok sc d (by omega) e26) ?_
        refine zq_wg 0 (pc' := 46) (lv' := [some (.ref a0), some (.ref a1), some (.long v17), none]) (st' := [.int v25]) (h' := h24) rfl ?_
        refine zr_if (v25 = 0) 59 49 (st' := []) rfl rfl (fun b28 => ?_) (fun b28 => ?_)
        · have hf := zo_t hf b28
          refine zq_wg 1 (pc' := 60) (lv' := [some (.ref a0), some (.ref a1), some (.long v17), none]) (st' := [.int (0 : Int32)]) (h' := h24) rfl ?_
          exact zr_ri rfl rfl rfl hf
        · have hf := zo_f hf b28
          refine zq_wg 3 (pc' := 53) (lv' := [some (.ref a0), some (.ref a1), some (.long v17), none]) (st' := [.int (9 : Int32), .int (0 : Int32), .ref a1]) (h' := h24) rfl ?_
          obtain ⟨e32, v30, h29, e31, hf⟩ := zo_v_s hf
          refine zr_cv zq_m34 [.int (0 : Int32), .int (9 : Int32)] [] rfl rfl rfl rfl rfl (Nat.le_of_ble_eq_true rfl) (Nat.le_of_ble_eq_true rfl) e32 (zx_Tape_takeNumber_ok sc d (by omega) e31) ?_
          refine zq_wg 0 (pc' := 56) (lv' := [some (.ref a0), some (.ref a1), some (.long v17), none]) (st' := [.int v30]) (h' := h29) rfl ?_
          refine zr_if (v30 = 0) 59 61 (st' := []) rfl rfl (fun b33 => ?_) (fun b33 => ?_)
          · have hf := zo_t hf b33
            refine zq_wg 1 (pc' := 60) (lv' := [some (.ref a0), some (.ref a1), some (.long v17), none]) (st' := [.int (0 : Int32)]) (h' := h29) rfl ?_
            exact zr_ri rfl rfl rfl hf
          · have hf := zo_f hf b33
            refine zq_wg 1 (pc' := 62) (lv' := [some (.ref a0), some (.ref a1), some (.long v17), none]) (st' := [.ref a0]) (h' := h29) rfl ?_
            obtain ⟨v34, e35, hf⟩ := zo_b_s hf
            refine zr_gR rfl rfl (by decide) rfl e35 ?_
            refine zq_wg 1 (pc' := 66) (lv' := [some (.ref a0), some (.ref a1), some (.long v17), none]) (st' := [.ref a0, .ref v34]) (h' := h29) rfl ?_
            obtain ⟨v36, e37, hf⟩ := zo_b_s hf
            refine zr_gI rfl rfl (by decide) rfl e37 ?_
            refine zq_wg 1 (pc' := 70) (lv' := [some (.ref a0), some (.ref a1), some (.long v17), none]) (st' := [.ref a1, .int v36, .ref v34]) (h' := h29) rfl ?_
            obtain ⟨v38, e39, hf⟩ := zo_b_s hf
            refine zr_gI rfl rfl (by decide) rfl e39 ?_
            obtain ⟨w41, h40, e42, hf⟩ := zo_c_s hf
            refine zr_cs zq_m11 [.ref v34, .int v36, .int v38] [] rfl rfl (by decide) rfl rfl rfl (Nat.le_of_ble_eq_true rfl) (Nat.le_of_ble_eq_true rfl) (zx_put_ok sc d (by omega) e42) ?_
            refine zq_wg 0 (pc' := 76) (lv' := [some (.ref a0), some (.ref a1), some (.long v17), none]) (st' := []) (h' := h40) rfl ?_
            refine zq_wg 2 (pc' := 80) (lv' := [some (.ref a0), some (.ref a1), some (.long v17), none]) (st' := [.ref 5, .ref a1]) (h' := h40) rfl ?_
            obtain ⟨e46, v44, h43, e45, hf⟩ := zo_v_s hf
            refine zr_cv zq_m33 [va_rf (some 5)] [] rfl rfl rfl rfl rfl (Nat.le_of_ble_eq_true rfl) (Nat.le_of_ble_eq_true rfl) e46 (zx_Tape_takeWord_ok sc d (by omega) e45) ?_
            refine zq_wg 0 (pc' := 83) (lv' := [some (.ref a0), some (.ref a1), some (.long v17), none]) (st' := [.int v44]) (h' := h43) rfl ?_
            refine zr_if (v44 = 0) 96 86 (st' := []) rfl rfl (fun b47 => ?_) (fun b47 => ?_)
            · have hf := zo_t hf b47
              refine zq_wg 1 (pc' := 97) (lv' := [some (.ref a0), some (.ref a1), some (.long v17), none]) (st' := [.int (0 : Int32)]) (h' := h43) rfl ?_
              exact zr_ri rfl rfl rfl hf
            · have hf := zo_f hf b47
              refine zq_wg 3 (pc' := 90) (lv' := [some (.ref a0), some (.ref a1), some (.long v17), none]) (st' := [.int (9 : Int32), .int (0 : Int32), .ref a1]) (h' := h43) rfl ?_
              obtain ⟨e51, v49, h48, e50, hf⟩ := zo_v_s hf
              refine zr_cv zq_m34 [.int (0 : Int32), .int (9 : Int32)] [] rfl rfl rfl rfl rfl (Nat.le_of_ble_eq_true rfl) (Nat.le_of_ble_eq_true rfl) e51 (zx_Tape_takeNumber_ok sc d (by omega) e50) ?_
              refine zq_wg 0 (pc' := 93) (lv' := [some (.ref a0), some (.ref a1), some (.long v17), none]) (st' := [.int v49]) (h' := h48) rfl ?_
              refine zr_if (v49 = 0) 96 98 (st' := []) rfl rfl (fun b52 => ?_) (fun b52 => ?_)
              · have hf := zo_t hf b52
                refine zq_wg 1 (pc' := 97) (lv' := [some (.ref a0), some (.ref a1), some (.long v17), none]) (st' := [.int (0 : Int32)]) (h' := h48) rfl ?_
                exact zr_ri rfl rfl rfl hf
              · have hf := zo_f hf b52
                refine zq_wg 1 (pc' := 99) (lv' := [some (.ref a0), some (.ref a1), some (.long v17), none]) (st' := [.ref a0]) (h' := h48) rfl ?_
                obtain ⟨v53, e54, hf⟩ := zo_b_s hf
                refine zr_gR rfl rfl (by decide) rfl e54 ?_
                refine zq_wg 1 (pc' := 103) (lv' := [some (.ref a0), some (.ref a1), some (.long v17), none]) (st' := [.ref a0, .ref v53]) (h' := h48) rfl ?_
                obtain ⟨v55, e56, hf⟩ := zo_b_s hf
                refine zr_gI rfl rfl (by decide) rfl e56 ?_
                refine zq_wg 1 (pc' := 107) (lv' := [some (.ref a0), some (.ref a1), some (.long v17), none]) (st' := [.ref a1, .int v55, .ref v53]) (h' := h48) rfl ?_
                obtain ⟨v57, e58, hf⟩ := zo_b_s hf
                refine zr_gI rfl rfl (by decide) rfl e58 ?_
                obtain ⟨w60, h59, e61, hf⟩ := zo_c_s hf
                refine zr_cs zq_m11 [.ref v53, .int v55, .int v57] [] rfl rfl (by decide) rfl rfl rfl (Nat.le_of_ble_eq_true rfl) (Nat.le_of_ble_eq_true rfl) (zx_put_ok sc d (by omega) e61) ?_
                refine zq_wg 0 (pc' := 113) (lv' := [some (.ref a0), some (.ref a1), some (.long v17), none]) (st' := []) (h' := h59) rfl ?_
                refine zq_wg 2 (pc' := 117) (lv' := [some (.ref a0), some (.ref a1), some (.long v17), none]) (st' := [.ref 6, .ref a1]) (h' := h59) rfl ?_
                obtain ⟨e65, v63, h62, e64, hf⟩ := zo_v_s hf
                refine zr_cv zq_m33 [va_rf (some 6)] [] rfl rfl rfl rfl rfl (Nat.le_of_ble_eq_true rfl) (Nat.le_of_ble_eq_true rfl) e65 (zx_Tape_takeWord_ok sc d (by omega) e64) ?_
                refine zq_wg 0 (pc' := 120) (lv' := [some (.ref a0), some (.ref a1), some (.long v17), none]) (st' := [.int v63]) (h' := h62) rfl ?_
                refine zr_if (v63 = 0) 134 123 (st' := []) rfl rfl (fun b66 => ?_) (fun b66 => ?_)
                · have hf := zo_t hf b66
                  refine zq_wg 1 (pc' := 135) (lv' := [some (.ref a0), some (.ref a1), some (.long v17), none]) (st' := [.int (0 : Int32)]) (h' := h62) rfl ?_
                  exact zr_ri rfl rfl rfl hf
                · have hf := zo_f hf b66
                  refine zq_wg 3 (pc' := 128) (lv' := [some (.ref a0), some (.ref a1), some (.long v17), none]) (st' := [.int (999 : Int32), .int (0 : Int32), .ref a1]) (h' := h62) rfl ?_
                  obtain ⟨e70, v68, h67, e69, hf⟩ := zo_v_s hf
                  refine zr_cv zq_m34 [.int (0 : Int32), .int (999 : Int32)] [] rfl rfl rfl rfl rfl (Nat.le_of_ble_eq_true rfl) (Nat.le_of_ble_eq_true rfl) e70 (zx_Tape_takeNumber_ok sc d (by omega) e69) ?_
                  refine zq_wg 0 (pc' := 131) (lv' := [some (.ref a0), some (.ref a1), some (.long v17), none]) (st' := [.int v68]) (h' := h67) rfl ?_
                  refine zr_if (v68 = 0) 134 136 (st' := []) rfl rfl (fun b71 => ?_) (fun b71 => ?_)
                  · have hf := zo_t hf b71
                    refine zq_wg 1 (pc' := 135) (lv' := [some (.ref a0), some (.ref a1), some (.long v17), none]) (st' := [.int (0 : Int32)]) (h' := h67) rfl ?_
                    exact zr_ri rfl rfl rfl hf
                  · have hf := zo_f hf b71
                    refine zq_wg 1 (pc' := 137) (lv' := [some (.ref a0), some (.ref a1), some (.long v17), none]) (st' := [.ref a0]) (h' := h67) rfl ?_
                    obtain ⟨v72, e73, hf⟩ := zo_b_s hf
                    refine zr_gR rfl rfl (by decide) rfl e73 ?_
                    refine zq_wg 1 (pc' := 141) (lv' := [some (.ref a0), some (.ref a1), some (.long v17), none]) (st' := [.ref a0, .ref v72]) (h' := h67) rfl ?_
                    obtain ⟨v74, e75, hf⟩ := zo_b_s hf
                    refine zr_gI rfl rfl (by decide) rfl e75 ?_
                    refine zq_wg 1 (pc' := 145) (lv' := [some (.ref a0), some (.ref a1), some (.long v17), none]) (st' := [.ref a1, .int v74, .ref v72]) (h' := h67) rfl ?_
                    obtain ⟨v76, e77, hf⟩ := zo_b_s hf
                    refine zr_gI rfl rfl (by decide) rfl e77 ?_
                    obtain ⟨w79, h78, e80, hf⟩ := zo_c_s hf
                    refine zr_cs zq_m11 [.ref v72, .int v74, .int v76] [] rfl rfl (by decide) rfl rfl rfl (Nat.le_of_ble_eq_true rfl) (Nat.le_of_ble_eq_true rfl) (zx_put_ok sc d (by omega) e80) ?_
                    refine zq_wg 0 (pc' := 151) (lv' := [some (.ref a0), some (.ref a1), some (.long v17), none]) (st' := []) (h' := h78) rfl ?_
                    refine zq_wg 1 (pc' := 152) (lv' := [some (.ref a0), some (.ref a1), some (.long v17), none]) (st' := [.ref a0]) (h' := h78) rfl ?_
                    obtain ⟨v81, e82, hf⟩ := zo_b_s hf
                    refine zr_gR rfl rfl (by decide) rfl e82 ?_
                    refine zq_wg 1 (pc' := 156) (lv' := [some (.ref a0), some (.ref a1), some (.long v17), none]) (st' := [.ref a0, .ref v81]) (h' := h78) rfl ?_
                    obtain ⟨v83, e84, hf⟩ := zo_b_s hf
                    refine zr_gI rfl rfl (by decide) rfl e84 ?_
                    refine zq_wg 1 (pc' := 160) (lv' := [some (.ref a0), some (.ref a1), some (.long v17), none]) (st' := [.long v17, .int v83, .ref v81]) (h' := h78) rfl ?_
                    obtain ⟨h85, e86, hf⟩ := zo_b_s hf
                    refine zr_last rfl e86 ?_
                    refine zq_wg 2 (pc' := 163) (lv' := [some (.ref a0), some (.ref a1), some (.long v17), none]) (st' := [.ref a0, .ref a0]) (h' := h85) rfl ?_
                    obtain ⟨v87, e88, hf⟩ := zo_b_s hf
                    refine zr_gI rfl rfl (by decide) rfl e88 ?_
                    refine zq_wg 2 (pc' := 168) (lv' := [some (.ref a0), some (.ref a1), some (.long v17), none]) (st' := [.int (v87 + (1 : Int32)), .ref a0]) (h' := h85) rfl ?_
                    obtain ⟨h89, e90, hf⟩ := zo_b_s hf
                    refine zr_pI rfl rfl (by decide) rfl rfl e90 ?_
                    refine zq_wg 1 (pc' := 172) (lv' := [some (.ref a0), some (.ref a1), some (.long v17), none]) (st' := [.int (1 : Int32)]) (h' := h89) rfl ?_
                    exact zr_ri rfl rfl rfl hf
    · have hf := zo_f hf b12
      refine zq_fg [none, some (.ref a1), none, none] (zq_lvle_n (zq_lvle_s (zq_lvle_s (zq_lvle_s zq_lvle_nil)))) ?_
      exact kj16_4 a1 h hf
set_option maxRecDepth 4000 in
def zx_Laws_add (sc : zX) (a0 : Nat) (a1 : Int32) (h : zH) : Option (Unit × zH) := zo_b (zo_gR h 1 a0 0) (fun v1 => zo_b (zo_gI h 1 a0 5) (fun v3 => zo_c (zx_put sc v1 v3 a1 h) (fun w6 h5 => zo_b (zo_gI h5 1 a0 5) (fun v8 => zo_b (zo_pI h5 1 a0 5 (v8 + (1 : Int32))) (fun h10 => some ((), h10))))))
set_option maxRecDepth 4000 in
theorem zx_Laws_add_ok (sc : zX) (d : Nat) (hd : 1 ≤ d) {a0 : Nat} {a1 : Int32} {h : zH} {ro_ : Unit} {ho_ : zH} (hf : zx_Laws_add sc a0 a1 h = some (ro_, ho_)) : zq_wm sc d 46 [.ref a0, .int a1] h (none, ho_) := by
  unfold zx_Laws_add at hf
  obtain ⟨d, rfl⟩ : ∃ d', d = d' + 1 := ⟨d - 1, by omega⟩
  have hd : 0 ≤ d := by omega
  show zq_wp sc (d + 1) 46 0 [some (.ref a0), some (.int a1)] [] h _
  refine zq_wg 1 (pc' := 1) (lv' := [some (.ref a0), some (.int a1)]) (st' := [.ref a0]) (h' := h) rfl ?_
  obtain ⟨v1, e2, hf⟩ := zo_b_s hf
  refine zr_gR rfl rfl (by decide) rfl e2 ?_
  refine zq_wg 1 (pc' := 5) (lv' := [some (.ref a0), some (.int a1)]) (st' := [.ref a0, .ref v1]) (h' := h) rfl ?_
  obtain ⟨v3, e4, hf⟩ := zo_b_s hf
  refine zr_gI rfl rfl (by decide) rfl e4 ?_
  refine zq_wg 1 (pc' := 9) (lv' := [some (.ref a0), some (.int a1)]) (st' := [.int a1, .int v3, .ref v1]) (h' := h) rfl ?_
  obtain ⟨w6, h5, e7, hf⟩ := zo_c_s hf
  refine zr_cs zq_m11 [.ref v1, .int v3, .int a1] [] rfl rfl (by decide) rfl rfl rfl (Nat.le_of_ble_eq_true rfl) (Nat.le_of_ble_eq_true rfl) (zx_put_ok sc d (by omega) e7) ?_
  refine zq_wg 0 (pc' := 12) (lv' := [some (.ref a0), some (.int a1)]) (st' := []) (h' := h5) rfl ?_
  refine zq_wg 2 (pc' := 14) (lv' := [some (.ref a0), some (.int a1)]) (st' := [.ref a0, .ref a0]) (h' := h5) rfl ?_
  obtain ⟨v8, e9, hf⟩ := zo_b_s hf
  refine zr_gI rfl rfl (by decide) rfl e9 ?_
  refine zq_wg 2 (pc' := 19) (lv' := [some (.ref a0), some (.int a1)]) (st' := [.int (v8 + (1 : Int32)), .ref a0]) (h' := h5) rfl ?_
  obtain ⟨h10, e11, hf⟩ := zo_b_s hf
  refine zr_pI rfl rfl (by decide) rfl rfl e11 ?_
  exact zr_rv rfl rfl hf
set_option maxRecDepth 4000 in
def zx_Laws_readTests_l14 (sc : zX) (rec : Nat → Nat → Nat → Int32 → Int32 → zH → Option (Int32 × zH)) : Nat → Nat → Nat → Int32 → Int32 → Int32 → Int32 → zH → Option (Int32 × zH)
  | 0, _, _, _, _, _, _, _ => none
  | n + 1, y5, y6, y7, y8, y9, y10, h11 => if y10 ≤ 0 then (zo_rb y9 h11) else (if y9 = 0 then (zo_rb y9 h11) else (zo_b (zo_gQ h11 5 y6 3) (fun v14 => zo_l (fun (x16 : Nat) (x17 : Nat) (x18 : Int32) (x19 : Int32) (x20 : Int32) (x21 : Int32) (h22 : zH) => zo_b (zo_gQ h22 5 x17 3) (fun v23 => zo_l (fun (x25 : Nat) (x26 : Nat) (x27 : Int32) (x28 : Int32) (x29 : Int32) (x30 : Int32) (h31 : zH) => zo_v h31 x26 5 (zx_Tape_step sc x26 h31) (fun w33 h32 => zo_v h32 x25 1 (rec 1 x25 x26 x27 x28 h32) (fun v37 h36 => zo_v h36 x25 1 (zx_Laws_add sc x25 x30 h36) (fun w41 h40 => zx_Laws_readTests_l14 sc rec n x25 x26 x27 x28 v37 (x29 + (-1 : Int32)) h40 )))) (fun j65_31 => if zo_okb v23 = true then if v23 = (some 9) then (j65_31 x16 x17 x18 x19 x20 x21 h22) else (zo_b (zo_gQ h22 5 x17 3) (fun v46 => if zo_okb v46 = true then if v46 = (some 10) then (j65_31 x16 x17 x18 x19 x20 x21 h22) else (some ((1 : Int32), h22)) else none)) else none))) (fun j41_22 => if zo_okb v14 = true then if v14 = (some 9) then (j41_22 y5 y6 y7 y8 y10 (-7 : Int32) h11) else (j41_22 y5 y6 y7 y8 y10 (-8 : Int32) h11) else none))))
set_option maxRecDepth 4000 in
def zx_Laws_readSum_l14 (sc : zX) (rec : Nat → Nat → Nat → Int32 → Int32 → zH → Option (Int32 × zH)) : Nat → Nat → Nat → Int32 → Int32 → Int32 → Int32 → zH → Option (Int32 × zH)
  | 0, _, _, _, _, _, _, _ => none
  | n + 1, y5, y6, y7, y8, y9, y10, h11 => if y10 ≤ 0 then (zo_rb y9 h11) else (if y9 = 0 then (zo_rb y9 h11) else (zo_v h11 y6 5 (zx_Tape_isSign sc y6 (43 : Int32) h11) (fun v15 h14 => zo_l (if v15 = 0 then (-2 : Int32) else (-1 : Int32)) (fun (x18 : Int32) => zo_v h14 y6 5 (zx_Tape_isSign sc y6 (43 : Int32) h14) (fun v20 h19 => zo_l (fun (x23 : Nat) (x24 : Nat) (x25 : Int32) (x26 : Int32) (x27 : Int32) (x28 : Int32) (h29 : zH) => zo_v h29 x24 5 (zx_Tape_step sc x24 h29) (fun w31 h30 => zo_v h30 x23 1 (rec 3 x23 x24 x25 x26 h30) (fun v35 h34 => zo_v h34 x23 1 (zx_Laws_add sc x23 x28 h34) (fun w39 h38 => zx_Laws_readSum_l14 sc rec n x23 x24 x25 x26 v35 (x27 + (-1 : Int32)) h38 )))) (fun j61_29 => if v20 = 0 then (zo_v h19 y6 5 (zx_Tape_isSign sc y6 (45 : Int32) h19) (fun v44 h43 => if v44 = 0 then (some ((1 : Int32), h43)) else (j61_29 y5 y6 y7 y8 y10 x18 h43))) else (j61_29 y5 y6 y7 y8 y10 x18 h19)))))))
set_option maxRecDepth 4000 in
def zx_Laws_readProduct_l14 (sc : zX) (rec : Nat → Nat → Nat → Int32 → Int32 → zH → Option (Int32 × zH)) : Nat → Nat → Nat → Int32 → Int32 → Int32 → Int32 → zH → Option (Int32 × zH)
  | 0, _, _, _, _, _, _, _ => none
  | n + 1, y5, y6, y7, y8, y9, y10, h11 => if y10 ≤ 0 then (zo_rb y9 h11) else (if y9 = 0 then (zo_rb y9 h11) else (zo_v h11 y6 5 (zx_Tape_isSign sc y6 (42 : Int32) h11) (fun v15 h14 => if v15 = 0 then (zo_rb y9 h14) else (zo_v h14 y6 5 (zx_Tape_step sc y6 h14) (fun w20 h19 => zo_v h19 y5 1 (rec 4 y5 y6 y7 y8 h19) (fun v24 h23 => zo_v h23 y5 1 (zx_Laws_add sc y5 (-3 : Int32) h23) (fun w28 h27 => zx_Laws_readProduct_l14 sc rec n y5 y6 y7 y8 v24 (y10 + (-1 : Int32)) h27 )))))))
set_option maxRecDepth 4000 in
def zx_Laws_readTests_b (sc : zX) (rec : Nat → Nat → Nat → Int32 → Int32 → zH → Option (Int32 × zH)) (a0 : Nat) (a1 : Nat) (a2 : Int32) (a3 : Int32) (h : zH) : Option (Int32 × zH) := zo_v h a0 1 (rec 1 a0 a1 a2 a3 h) (fun v2 h1 => zx_Laws_readTests_l14 sc rec zo_F a0 a1 a2 a3 v2 (1000 : Int32) h1 )
set_option maxRecDepth 4000 in
def zx_Laws_readTest_b (sc : zX) (rec : Nat → Nat → Nat → Int32 → Int32 → zH → Option (Int32 × zH)) (a0 : Nat) (a1 : Nat) (a2 : Int32) (a3 : Int32) (h : zH) : Option (Int32 × zH) := zo_v h a0 1 (rec 2 a0 a1 a2 a3 h) (fun v2 h1 => if v2 = 0 then (some ((0 : Int32), h1)) else (zo_v h1 a1 5 (zx_Tape_isSign sc a1 (60 : Int32) h1) (fun v7 h6 => zo_l (fun (x10 : Nat) (x11 : Nat) (x12 : Int32) (x13 : Int32) (h14 : zH) => zo_v h14 x11 5 (zx_Tape_isSign sc x11 (60 : Int32) h14) (fun v16 h15 => zo_l (if v16 = 0 then (-5 : Int32) else (-4 : Int32)) (fun (x19 : Int32) => zo_v h15 x11 5 (zx_Tape_step sc x11 h15) (fun w21 h20 => zo_v h20 x10 1 (rec 2 x10 x11 x12 x13 h20) (fun v25 h24 => zo_v h24 x10 1 (zx_Laws_add sc x10 x19 h24) (fun w29 h28 => zo_rb v25 h28)))))) (fun j32_14 => if v7 = 0 then (zo_v h6 a1 5 (zx_Tape_isSign sc a1 (61 : Int32) h6) (fun v35 h34 => if v35 = 0 then (some ((1 : Int32), h34)) else (j32_14 a0 a1 a2 a3 h34))) else (j32_14 a0 a1 a2 a3 h6)))))
set_option maxRecDepth 4000 in
def zx_Laws_readSum_b (sc : zX) (rec : Nat → Nat → Nat → Int32 → Int32 → zH → Option (Int32 × zH)) (a0 : Nat) (a1 : Nat) (a2 : Int32) (a3 : Int32) (h : zH) : Option (Int32 × zH) := zo_v h a0 1 (rec 3 a0 a1 a2 a3 h) (fun v2 h1 => zx_Laws_readSum_l14 sc rec zo_F a0 a1 a2 a3 v2 (1000 : Int32) h1 )
set_option maxRecDepth 4000 in
def zx_Laws_readProduct_b (sc : zX) (rec : Nat → Nat → Nat → Int32 → Int32 → zH → Option (Int32 × zH)) (a0 : Nat) (a1 : Nat) (a2 : Int32) (a3 : Int32) (h : zH) : Option (Int32 × zH) := zo_v h a0 1 (rec 4 a0 a1 a2 a3 h) (fun v2 h1 => zx_Laws_readProduct_l14 sc rec zo_F a0 a1 a2 a3 v2 (1000 : Int32) h1 )
set_option maxRecDepth 4000 in
def zx_Laws_readPart_b (sc : zX) (rec : Nat → Nat → Nat → Int32 → Int32 → zH → Option (Int32 × zH)) (a0 : Nat) (a1 : Nat) (a2 : Int32) (a3 : Int32) (h : zH) : Option (Int32 × zH) := zo_l (if a2 = (2 : Int32) then (6 : Int32) else (5 : Int32)) (fun (x1 : Int32) => zo_v h a1 5 (zx_Tape_which sc a1 x1 h) (fun v3 h2 => zo_b (zo_gI h2 5 a1 2) (fun v6 => zo_l (fun (x8 : Nat) (x9 : Nat) (x10 : Int32) (x11 : Int32) (x12 : Int32) (x13 : Int32) (h14 : zH) => zo_b (zo_gQ h14 5 x9 3) (fun v15 => zo_l (fun (x17 : Nat) (x18 : Nat) (x19 : Int32) (x20 : Int32) (x21 : Int32) (x22 : Int32) (x23 : Int32) (h24 : zH) => zo_l (fun (x25 : Nat) (x26 : Nat) (x27 : Int32) (x28 : Int32) (x29 : Int32) (x30 : Int32) (x31 : Int32) (h32 : zH) => if x28 < (5 : Int32) then (if x30 = 0 then (zo_v h32 x26 5 (zx_Tape_step sc x26 h32) (fun w36 h35 => if x31 = 0 then (zo_v h35 x25 1 (rec 0 x25 x26 x27 (x28 + (1 : Int32)) h35) (fun v41 h40 => if v41 = 0 then (some ((0 : Int32), h40)) else (zo_v h40 x26 5 (zx_Tape_takeSign sc x26 (41 : Int32) h40) (fun v46 h45 => if v46 = 0 then (some ((0 : Int32), h45)) else (some ((1 : Int32), h45)))))) else (zo_v h35 x25 1 (rec 4 x25 x26 x27 (x28 + (1 : Int32)) h35) (fun v51 h50 => zo_v h50 x25 1 (zx_Laws_add sc x25 (-6 : Int32) h50) (fun w55 h54 => zo_rb v51 h54))))) else (zo_l (fun (x58 : Nat) (x59 : Nat) (x60 : Int32) (h61 : zH) => zo_v h61 x59 1 (zx_Laws_add sc x59 x60 h61) (fun w63 h62 => zo_v h62 x58 5 (zx_Tape_step sc x58 h62) (fun w67 h66 => some ((1 : Int32), h66)))) (fun j116_61 => if x29 = (-1 : Int32) then (zo_b (zo_gL h32 5 x26 4) (fun v71 => j116_61 x26 x25 v71.toInt32 h32)) else (j116_61 x26 x25 ((-16 : Int32) - x29) h32)))) else (zo_v h32 x26 5 (zx_Tape_wrong sc x26 (5 : Int32) h32) (fun v74 h73 => zo_rb v74 h73))) (fun j80_32 => if x22 = 0 then (if x23 = 0 then (zo_v h24 x18 5 (zx_Tape_isSign sc x18 (40 : Int32) h24) (fun v80 h79 => if v80 = 0 then (zo_v h79 x18 5 (zx_Tape_wrong sc x18 (1 : Int32) h79) (fun v85 h84 => zo_rb v85 h84)) else (j80_32 x17 x18 x19 x20 x21 x22 x23 h79))) else (j80_32 x17 x18 x19 x20 x21 x22 x23 h24)) else (j80_32 x17 x18 x19 x20 x21 x22 x23 h24))) (fun j53_24 => if zo_okb v15 = true then if v15 = (some 8) then (j53_24 x8 x9 x10 x11 x12 x13 (1 : Int32) h14) else (j53_24 x8 x9 x10 x11 x12 x13 (0 : Int32) h14) else none))) (fun j36_14 => zo_l (fun (x90 : Nat) (x91 : Nat) (x92 : Int32) (x93 : Int32) (x94 : Int32) (h95 : zH) => j36_14 x90 x91 x92 x93 x94 (1 : Int32) h95) (fun j31_95 => if v6 = (2 : Int32) then (j31_95 a0 a1 a2 a3 v3 h2) else (if v3 = (-1 : Int32) then (j36_14 a0 a1 a2 a3 v3 (0 : Int32) h2) else (j31_95 a0 a1 a2 a3 v3 h2)))))))
set_option maxRecDepth 4000 in
theorem zx_Laws_readTests_l14_ok (sc : zX) (d : Nat) (hd : 2 ≤ d) (rec : Nat → Nat → Nat → Int32 → Int32 → zH → Option (Int32 × zH)) (hrec : ∀ (zs : Nat) (z0 : Nat) (z1 : Nat) (z2 : Int32) (z3 : Int32) (hz : zH) (rz : Int32) (hy : zH), rec zs z0 z1 z2 z3 hz = some (rz, hy) → zq_wm sc d (if zs = 0 then 41 else if zs = 1 then 42 else if zs = 2 then 43 else if zs = 3 then 44 else 45) [.ref z0, .ref z1, .int z2, .int z3] hz (some (.int rz), hy)) : ∀ (n : Nat) (y5 : Nat) (y6 : Nat) (y7 : Int32) (y8 : Int32) (y9 : Int32) (y10 : Int32) (h11 : zH) (ro_ : Int32) (ho_ : zH),  zx_Laws_readTests_l14 sc rec n y5 y6 y7 y8 y9 y10 h11  = some (ro_, ho_) → zq_wp sc (d + 1) 41 14 [some (.ref y5), some (.ref y6), some (.int y7), some (.int y8), some (.int y9), some (.int y10), none] [] h11 (some (.int ro_), ho_) := by
  intro n
  induction n with
  | zero => intro y5 y6 y7 y8 y9 y10 h11 ro_ ho_ hf; cases hf
  | succ n ih =>
    intro y5 y6 y7 y8 y9 y10 h11 ro_ ho_ hf
    refine zq_wg 1 (pc' := 16) (lv' := [some (.ref y5), some (.ref y6), some (.int y7), some (.int y8), some (.int y9), some (.int y10), none]) (st' := [.int y10]) (h' := h11) rfl ?_
    refine zr_if (y10 ≤ 0) 90 19 (st' := []) rfl rfl (fun b12 => ?_) (fun b12 => ?_)
    · have hf := zo_t hf b12
      refine zq_wg 1 (pc' := 92) (lv' := [some (.ref y5), some (.ref y6), some (.int y7), some (.int y8), some (.int y9), some (.int y10), none]) (st' := [.int y9]) (h' := h11) rfl ?_
      exact zr_rb rfl rfl hf
    · have hf := zo_f hf b12
      refine zq_wg 1 (pc' := 21) (lv' := [some (.ref y5), some (.ref y6), some (.int y7), some (.int y8), some (.int y9), some (.int y10), none]) (st' := [.int y9]) (h' := h11) rfl ?_
      refine zr_if (y9 = 0) 90 24 (st' := []) rfl rfl (fun b13 => ?_) (fun b13 => ?_)
      · have hf := zo_t hf b13
        refine zq_wg 1 (pc' := 92) (lv' := [some (.ref y5), some (.ref y6), some (.int y7), some (.int y8), some (.int y9), some (.int y10), none]) (st' := [.int y9]) (h' := h11) rfl ?_
        exact zr_rb rfl rfl hf
      · have hf := zo_f hf b13
        refine zq_wg 1 (pc' := 25) (lv' := [some (.ref y5), some (.ref y6), some (.int y7), some (.int y8), some (.int y9), some (.int y10), none]) (st' := [.ref y6]) (h' := h11) rfl ?_
        obtain ⟨v14, e15, hf⟩ := zo_b_s hf
        refine zr_gQ rfl rfl (by decide) rfl e15 ?_
        refine zq_wg 1 (pc' := 31) (lv' := [some (.ref y5), some (.ref y6), some (.int y7), some (.int y8), some (.int y9), some (.int y10), none]) (st' := [.ref 9, va_rf v14]) (h' := h11) rfl ?_
        obtain ⟨j41_22, hjj41_22, hf⟩ := zo_lj hf
        have kj41_22 : ∀ (x16 : Nat) (x17 : Nat) (x18 : Int32) (x19 : Int32) (x20 : Int32) (x21 : Int32) (h22 : zH), j41_22 x16 x17 x18 x19 x20 x21 h22 = some (ro_, ho_) → zq_wp sc (d + 1) 41 41 [some (.ref x16), some (.ref x17), some (.int x18), some (.int x19), none, some (.int x20), none] [.int x21] h22 (some (.int ro_), ho_) := by
          intro x16 x17 x18 x19 x20 x21 h22 hf
          rw [hjj41_22] at hf
          refine zq_wg 2 (pc' := 44) (lv' := [some (.ref x16), some (.ref x17), some (.int x18), some (.int x19), none, some (.int x20), some (.int x21)]) (st' := [.ref x17]) (h' := h22) rfl ?_
          obtain ⟨v23, e24, hf⟩ := zo_b_s hf
          refine zr_gQ rfl rfl (by decide) rfl e24 ?_
          refine zq_wg 1 (pc' := 50) (lv' := [some (.ref x16), some (.ref x17), some (.int x18), some (.int x19), none, some (.int x20), some (.int x21)]) (st' := [.ref 9, va_rf v23]) (h' := h22) rfl ?_
          obtain ⟨j65_31, hjj65_31, hf⟩ := zo_lj hf
          have kj65_31 : ∀ (x25 : Nat) (x26 : Nat) (x27 : Int32) (x28 : Int32) (x29 : Int32) (x30 : Int32) (h31 : zH), j65_31 x25 x26 x27 x28 x29 x30 h31 = some (ro_, ho_) → zq_wp sc (d + 1) 41 65 [some (.ref x25), some (.ref x26), some (.int x27), some (.int x28), none, some (.int x29), some (.int x30)] [] h31 (some (.int ro_), ho_) := by
            intro x25 x26 x27 x28 x29 x30 h31 hf
            rw [hjj65_31] at hf
            refine zq_wg 1 (pc' := 66) (lv' := [some (.ref x25), some (.ref x26), some (.int x27), some (.int x28), none, some (.int x29), some (.int x30)]) (st' := [.ref x26]) (h' := h31) rfl ?_
            obtain ⟨e35, w33, h32, e34, hf⟩ := zo_v_s hf
            refine zr_cv zq_m20 [] [] rfl rfl rfl rfl rfl (Nat.le_of_ble_eq_true rfl) (Nat.le_of_ble_eq_true rfl) e35 (zx_Tape_step_ok sc d (by omega) e34) ?_
            refine zq_wg 0 (pc' := 69) (lv' := [some (.ref x25), some (.ref x26), some (.int x27), some (.int x28), none, some (.int x29), some (.int x30)]) (st' := []) (h' := h32) rfl ?_
            refine zq_wg 4 (pc' := 73) (lv' := [some (.ref x25), some (.ref x26), some (.int x27), some (.int x28), none, some (.int x29), some (.int x30)]) (st' := [.int x28, .int x27, .ref x26, .ref x25]) (h' := h32) rfl ?_
            obtain ⟨e39, v37, h36, e38, hf⟩ := zo_v_s hf
            refine zr_cv zq_m42 [.ref x26, .int x27, .int x28] [] rfl rfl rfl rfl rfl (Nat.le_of_ble_eq_true rfl) (Nat.le_of_ble_eq_true rfl) e39 (hrec 1 x25 x26 x27 x28 h32 _ _ e38) ?_
            refine zq_wg 0 (pc' := 76) (lv' := [some (.ref x25), some (.ref x26), some (.int x27), some (.int x28), none, some (.int x29), some (.int x30)]) (st' := [.int v37]) (h' := h36) rfl ?_
            refine zq_wg 3 (pc' := 81) (lv' := [some (.ref x25), some (.ref x26), some (.int x27), some (.int x28), some (.int v37), some (.int x29), some (.int x30)]) (st' := [.int x30, .ref x25]) (h' := h36) rfl ?_
            obtain ⟨e43, w41, h40, e42, hf⟩ := zo_v_s hf
            refine zr_cv zq_m46 [.int x30] [] rfl rfl rfl rfl rfl (Nat.le_of_ble_eq_true rfl) (Nat.le_of_ble_eq_true rfl) e43 (zx_Laws_add_ok sc d (by omega) e42) ?_
            refine zq_wg 0 (pc' := 84) (lv' := [some (.ref x25), some (.ref x26), some (.int x27), some (.int x28), some (.int v37), some (.int x29), some (.int x30)]) (st' := []) (h' := h40) rfl ?_
            refine zq_wg 2 (pc' := 14) (lv' := [some (.ref x25), some (.ref x26), some (.int x27), some (.int x28), some (.int v37), some (.int (x29 + (-1 : Int32))), some (.int x30)]) (st' := []) (h' := h40) rfl ?_
            refine zq_fg [some (.ref x25), some (.ref x26), some (.int x27), some (.int x28), some (.int v37), some (.int (x29 + (-1 : Int32))), none] (zq_lvle_s (zq_lvle_s (zq_lvle_s (zq_lvle_s (zq_lvle_s (zq_lvle_s (zq_lvle_n zq_lvle_nil))))))) ?_
            exact ih x25 x26 x27 x28 v37 (x29 + (-1 : Int32)) h40 _ _ hf
          by_cases b45 : zo_okb v23 = true
          case neg => rw [if_neg b45] at hf; cases hf
          have hf := zo_t hf b45
          refine zr_aeq v23 (some 9) rfl rfl (zo_okb_ok b45) (zo_okb_ok rfl) (fun b44 => ?_) (fun b44 => ?_)
          · have hf := zo_t hf b44
            exact kj65_31 x16 x17 x18 x19 x20 x21 h22 hf
          · have hf := zo_f hf b44
            refine zq_wg 1 (pc' := 54) (lv' := [some (.ref x16), some (.ref x17), some (.int x18), some (.int x19), none, some (.int x20), some (.int x21)]) (st' := [.ref x17]) (h' := h22) rfl ?_
            obtain ⟨v46, e47, hf⟩ := zo_b_s hf
            refine zr_gQ rfl rfl (by decide) rfl e47 ?_
            refine zq_wg 1 (pc' := 60) (lv' := [some (.ref x16), some (.ref x17), some (.int x18), some (.int x19), none, some (.int x20), some (.int x21)]) (st' := [.ref 10, va_rf v46]) (h' := h22) rfl ?_
            by_cases b49 : zo_okb v46 = true
            case neg => rw [if_neg b49] at hf; cases hf
            have hf := zo_t hf b49
            refine zr_aeq v46 (some 10) rfl rfl (zo_okb_ok b49) (zo_okb_ok rfl) (fun b48 => ?_) (fun b48 => ?_)
            · have hf := zo_t hf b48
              exact kj65_31 x16 x17 x18 x19 x20 x21 h22 hf
            · have hf := zo_f hf b48
              refine zq_wg 1 (pc' := 64) (lv' := [some (.ref x16), some (.ref x17), some (.int x18), some (.int x19), none, some (.int x20), some (.int x21)]) (st' := [.int (1 : Int32)]) (h' := h22) rfl ?_
              exact zr_ri rfl rfl rfl hf
        by_cases b51 : zo_okb v14 = true
        case neg => rw [if_neg b51] at hf; cases hf
        have hf := zo_t hf b51
        refine zr_ane v14 (some 9) rfl rfl (zo_okb_ok b51) (zo_okb_ok rfl) (fun b50 => ?_) (fun b50 => ?_)
        · have hf := zo_t hf b50
          refine zq_wg 2 (pc' := 41) (lv' := [some (.ref y5), some (.ref y6), some (.int y7), some (.int y8), some (.int y9), some (.int y10), none]) (st' := [.int (-7 : Int32)]) (h' := h11) rfl ?_
          refine zq_fg [some (.ref y5), some (.ref y6), some (.int y7), some (.int y8), none, some (.int y10), none] (zq_lvle_s (zq_lvle_s (zq_lvle_s (zq_lvle_s (zq_lvle_n (zq_lvle_s (zq_lvle_s zq_lvle_nil))))))) ?_
          exact kj41_22 y5 y6 y7 y8 y10 (-7 : Int32) h11 hf
        · have hf := zo_f hf b50
          refine zq_wg 1 (pc' := 41) (lv' := [some (.ref y5), some (.ref y6), some (.int y7), some (.int y8), some (.int y9), some (.int y10), none]) (st' := [.int (-8 : Int32)]) (h' := h11) rfl ?_
          refine zq_fg [some (.ref y5), some (.ref y6), some (.int y7), some (.int y8), none, some (.int y10), none] (zq_lvle_s (zq_lvle_s (zq_lvle_s (zq_lvle_s (zq_lvle_n (zq_lvle_s (zq_lvle_s zq_lvle_nil))))))) ?_
          exact kj41_22 y5 y6 y7 y8 y10 (-8 : Int32) h11 hf
set_option maxRecDepth 4000 in
theorem zx_Laws_readTests_bok (sc : zX) (d : Nat) (hd : 2 ≤ d) (rec : Nat → Nat → Nat → Int32 → Int32 → zH → Option (Int32 × zH)) (hrec : ∀ (zs : Nat) (z0 : Nat) (z1 : Nat) (z2 : Int32) (z3 : Int32) (hz : zH) (rz : Int32) (hy : zH), rec zs z0 z1 z2 z3 hz = some (rz, hy) → zq_wm sc d (if zs = 0 then 41 else if zs = 1 then 42 else if zs = 2 then 43 else if zs = 3 then 44 else 45) [.ref z0, .ref z1, .int z2, .int z3] hz (some (.int rz), hy)) (a0 : Nat) (a1 : Nat) (a2 : Int32) (a3 : Int32) (h : zH) (ro_ : Int32) (ho_ : zH) (hf : zx_Laws_readTests_b sc rec a0 a1 a2 a3 h = some (ro_, ho_)) : zq_wm sc (d + 1) 41 [.ref a0, .ref a1, .int a2, .int a3] h (some (.int ro_), ho_) := by
  unfold zx_Laws_readTests_b at hf
  show zq_wp sc (d + 1) 41 0 [some (.ref a0), some (.ref a1), some (.int a2), some (.int a3), none, none, none] [] h _
  refine zq_wg 4 (pc' := 4) (lv' := [some (.ref a0), some (.ref a1), some (.int a2), some (.int a3), none, none, none]) (st' := [.int a3, .int a2, .ref a1, .ref a0]) (h' := h) rfl ?_
  obtain ⟨e4, v2, h1, e3, hf⟩ := zo_v_s hf
  refine zr_cv zq_m42 [.ref a1, .int a2, .int a3] [] rfl rfl rfl rfl rfl (Nat.le_of_ble_eq_true rfl) (Nat.le_of_ble_eq_true rfl) e4 (hrec 1 a0 a1 a2 a3 h _ _ e3) ?_
  refine zq_wg 0 (pc' := 7) (lv' := [some (.ref a0), some (.ref a1), some (.int a2), some (.int a3), none, none, none]) (st' := [.int v2]) (h' := h1) rfl ?_
  refine zq_wg 3 (pc' := 14) (lv' := [some (.ref a0), some (.ref a1), some (.int a2), some (.int a3), some (.int v2), some (.int (1000 : Int32)), none]) (st' := []) (h' := h1) rfl ?_
  refine zx_Laws_readTests_l14_ok sc d hd rec hrec zo_F a0 a1 a2 a3 v2 (1000 : Int32) h1 _ _ hf
set_option maxRecDepth 4000 in
theorem zx_Laws_readTest_bok (sc : zX) (d : Nat) (hd : 2 ≤ d) (rec : Nat → Nat → Nat → Int32 → Int32 → zH → Option (Int32 × zH)) (hrec : ∀ (zs : Nat) (z0 : Nat) (z1 : Nat) (z2 : Int32) (z3 : Int32) (hz : zH) (rz : Int32) (hy : zH), rec zs z0 z1 z2 z3 hz = some (rz, hy) → zq_wm sc d (if zs = 0 then 41 else if zs = 1 then 42 else if zs = 2 then 43 else if zs = 3 then 44 else 45) [.ref z0, .ref z1, .int z2, .int z3] hz (some (.int rz), hy)) (a0 : Nat) (a1 : Nat) (a2 : Int32) (a3 : Int32) (h : zH) (ro_ : Int32) (ho_ : zH) (hf : zx_Laws_readTest_b sc rec a0 a1 a2 a3 h = some (ro_, ho_)) : zq_wm sc (d + 1) 42 [.ref a0, .ref a1, .int a2, .int a3] h (some (.int ro_), ho_) := by
  unfold zx_Laws_readTest_b at hf
  show zq_wp sc (d + 1) 42 0 [some (.ref a0), some (.ref a1), some (.int a2), some (.int a3), none, none] [] h _
  refine zq_wg 4 (pc' := 4) (lv' := [some (.ref a0), some (.ref a1), some (.int a2), some (.int a3), none, none]) (st' := [.int a3, .int a2, .ref a1, .ref a0]) (h' := h) rfl ?_
  obtain ⟨e4, v2, h1, e3, hf⟩ := zo_v_s hf
  refine zr_cv zq_m43 [.ref a1, .int a2, .int a3] [] rfl rfl rfl rfl rfl (Nat.le_of_ble_eq_true rfl) (Nat.le_of_ble_eq_true rfl) e4 (hrec 2 a0 a1 a2 a3 h _ _ e3) ?_
  refine zq_wg 0 (pc' := 7) (lv' := [some (.ref a0), some (.ref a1), some (.int a2), some (.int a3), none, none]) (st' := [.int v2]) (h' := h1) rfl ?_
  refine zr_if (v2 = 0) 10 12 (st' := []) rfl rfl (fun b5 => ?_) (fun b5 => ?_)
  · have hf := zo_t hf b5
    refine zq_wg 1 (pc' := 11) (lv' := [some (.ref a0), some (.ref a1), some (.int a2), some (.int a3), none, none]) (st' := [.int (0 : Int32)]) (h' := h1) rfl ?_
    exact zr_ri rfl rfl rfl hf
  · have hf := zo_f hf b5
    refine zq_wg 2 (pc' := 15) (lv' := [some (.ref a0), some (.ref a1), some (.int a2), some (.int a3), none, none]) (st' := [.int (60 : Int32), .ref a1]) (h' := h1) rfl ?_
    obtain ⟨e9, v7, h6, e8, hf⟩ := zo_v_s hf
    refine zr_cv zq_m38 [.int (60 : Int32)] [] rfl rfl rfl rfl rfl (Nat.le_of_ble_eq_true rfl) (Nat.le_of_ble_eq_true rfl) e9 (zx_Tape_isSign_ok sc d (by omega) e8) ?_
    refine zq_wg 0 (pc' := 18) (lv' := [some (.ref a0), some (.ref a1), some (.int a2), some (.int a3), none, none]) (st' := [.int v7]) (h' := h6) rfl ?_
    obtain ⟨j32_14, hjj32_14, hf⟩ := zo_lj hf
    have kj32_14 : ∀ (x10 : Nat) (x11 : Nat) (x12 : Int32) (x13 : Int32) (h14 : zH), j32_14 x10 x11 x12 x13 h14 = some (ro_, ho_) → zq_wp sc (d + 1) 42 32 [some (.ref x10), some (.ref x11), some (.int x12), some (.int x13), none, none] [] h14 (some (.int ro_), ho_) := by
      intro x10 x11 x12 x13 h14 hf
      rw [hjj32_14] at hf
      refine zq_wg 2 (pc' := 35) (lv' := [some (.ref x10), some (.ref x11), some (.int x12), some (.int x13), none, none]) (st' := [.int (60 : Int32), .ref x11]) (h' := h14) rfl ?_
      obtain ⟨e18, v16, h15, e17, hf⟩ := zo_v_s hf
      refine zr_cv zq_m38 [.int (60 : Int32)] [] rfl rfl rfl rfl rfl (Nat.le_of_ble_eq_true rfl) (Nat.le_of_ble_eq_true rfl) e18 (zx_Tape_isSign_ok sc d (by omega) e17) ?_
      refine zq_wg 0 (pc' := 38) (lv' := [some (.ref x10), some (.ref x11), some (.int x12), some (.int x13), none, none]) (st' := [.int v16]) (h' := h15) rfl ?_
      obtain ⟨g48_19, hg48_19, hf⟩ := zo_lx hf
      have kg48_19 : ∀ (x19 : Int32), g48_19 x19 = some (ro_, ho_) → zq_wp sc (d + 1) 42 48 [some (.ref x10), some (.ref x11), some (.int x12), some (.int x13), none, none] [.int x19] h15 (some (.int ro_), ho_) := by
        intro x19 hf
        rw [hg48_19] at hf
        refine zq_wg 2 (pc' := 51) (lv' := [some (.ref x10), some (.ref x11), some (.int x12), some (.int x13), some (.int x19), none]) (st' := [.ref x11]) (h' := h15) rfl ?_
        obtain ⟨e23, w21, h20, e22, hf⟩ := zo_v_s hf
        refine zr_cv zq_m20 [] [] rfl rfl rfl rfl rfl (Nat.le_of_ble_eq_true rfl) (Nat.le_of_ble_eq_true rfl) e23 (zx_Tape_step_ok sc d (by omega) e22) ?_
        refine zq_wg 0 (pc' := 54) (lv' := [some (.ref x10), some (.ref x11), some (.int x12), some (.int x13), some (.int x19), none]) (st' := []) (h' := h20) rfl ?_
        refine zq_wg 4 (pc' := 58) (lv' := [some (.ref x10), some (.ref x11), some (.int x12), some (.int x13), some (.int x19), none]) (st' := [.int x13, .int x12, .ref x11, .ref x10]) (h' := h20) rfl ?_
        obtain ⟨e27, v25, h24, e26, hf⟩ := zo_v_s hf
        refine zr_cv zq_m43 [.ref x11, .int x12, .int x13] [] rfl rfl rfl rfl rfl (Nat.le_of_ble_eq_true rfl) (Nat.le_of_ble_eq_true rfl) e27 (hrec 2 x10 x11 x12 x13 h20 _ _ e26) ?_
        refine zq_wg 0 (pc' := 61) (lv' := [some (.ref x10), some (.ref x11), some (.int x12), some (.int x13), some (.int x19), none]) (st' := [.int v25]) (h' := h24) rfl ?_
        refine zq_wg 3 (pc' := 66) (lv' := [some (.ref x10), some (.ref x11), some (.int x12), some (.int x13), some (.int x19), some (.int v25)]) (st' := [.int x19, .ref x10]) (h' := h24) rfl ?_
        obtain ⟨e31, w29, h28, e30, hf⟩ := zo_v_s hf
        refine zr_cv zq_m46 [.int x19] [] rfl rfl rfl rfl rfl (Nat.le_of_ble_eq_true rfl) (Nat.le_of_ble_eq_true rfl) e31 (zx_Laws_add_ok sc d (by omega) e30) ?_
        refine zq_wg 0 (pc' := 69) (lv' := [some (.ref x10), some (.ref x11), some (.int x12), some (.int x13), some (.int x19), some (.int v25)]) (st' := []) (h' := h28) rfl ?_
        refine zq_wg 1 (pc' := 71) (lv' := [some (.ref x10), some (.ref x11), some (.int x12), some (.int x13), some (.int x19), some (.int v25)]) (st' := [.int v25]) (h' := h28) rfl ?_
        exact zr_rb rfl rfl hf
      refine zr_if (v16 = 0) 46 41 (st' := []) rfl rfl (fun b32 => ?_) (fun b32 => ?_)
      · have hf := zo_lt hf b32
        refine zq_wg 1 (pc' := 48) (lv' := [some (.ref x10), some (.ref x11), some (.int x12), some (.int x13), none, none]) (st' := [.int (-5 : Int32)]) (h' := h15) rfl ?_
        exact kg48_19 _ hf
      · have hf := zo_lf hf b32
        refine zq_wg 2 (pc' := 48) (lv' := [some (.ref x10), some (.ref x11), some (.int x12), some (.int x13), none, none]) (st' := [.int (-4 : Int32)]) (h' := h15) rfl ?_
        exact kg48_19 _ hf
    refine zr_if (v7 = 0) 21 32 (st' := []) rfl rfl (fun b33 => ?_) (fun b33 => ?_)
    · have hf := zo_t hf b33
      refine zq_wg 2 (pc' := 24) (lv' := [some (.ref a0), some (.ref a1), some (.int a2), some (.int a3), none, none]) (st' := [.int (61 : Int32), .ref a1]) (h' := h6) rfl ?_
      obtain ⟨e37, v35, h34, e36, hf⟩ := zo_v_s hf
      refine zr_cv zq_m38 [.int (61 : Int32)] [] rfl rfl rfl rfl rfl (Nat.le_of_ble_eq_true rfl) (Nat.le_of_ble_eq_true rfl) e37 (zx_Tape_isSign_ok sc d (by omega) e36) ?_
      refine zq_wg 0 (pc' := 27) (lv' := [some (.ref a0), some (.ref a1), some (.int a2), some (.int a3), none, none]) (st' := [.int v35]) (h' := h34) rfl ?_
      refine zr_if (v35 = 0) 30 32 (st' := []) rfl rfl (fun b38 => ?_) (fun b38 => ?_)
      · have hf := zo_t hf b38
        refine zq_wg 1 (pc' := 31) (lv' := [some (.ref a0), some (.ref a1), some (.int a2), some (.int a3), none, none]) (st' := [.int (1 : Int32)]) (h' := h34) rfl ?_
        exact zr_ri rfl rfl rfl hf
      · have hf := zo_f hf b38
        exact kj32_14 a0 a1 a2 a3 h34 hf
    · have hf := zo_f hf b33
      exact kj32_14 a0 a1 a2 a3 h6 hf
set_option maxRecDepth 4000 in
theorem zx_Laws_readSum_l14_ok (sc : zX) (d : Nat) (hd : 2 ≤ d) (rec : Nat → Nat → Nat → Int32 → Int32 → zH → Option (Int32 × zH)) (hrec : ∀ (zs : Nat) (z0 : Nat) (z1 : Nat) (z2 : Int32) (z3 : Int32) (hz : zH) (rz : Int32) (hy : zH), rec zs z0 z1 z2 z3 hz = some (rz, hy) → zq_wm sc d (if zs = 0 then 41 else if zs = 1 then 42 else if zs = 2 then 43 else if zs = 3 then 44 else 45) [.ref z0, .ref z1, .int z2, .int z3] hz (some (.int rz), hy)) : ∀ (n : Nat) (y5 : Nat) (y6 : Nat) (y7 : Int32) (y8 : Int32) (y9 : Int32) (y10 : Int32) (h11 : zH) (ro_ : Int32) (ho_ : zH),  zx_Laws_readSum_l14 sc rec n y5 y6 y7 y8 y9 y10 h11  = some (ro_, ho_) → zq_wp sc (d + 1) 43 14 [some (.ref y5), some (.ref y6), some (.int y7), some (.int y8), some (.int y9), some (.int y10), none] [] h11 (some (.int ro_), ho_) := by
  intro n
  induction n with
  | zero => intro y5 y6 y7 y8 y9 y10 h11 ro_ ho_ hf; cases hf
  | succ n ih =>
    intro y5 y6 y7 y8 y9 y10 h11 ro_ ho_ hf
    refine zq_wg 1 (pc' := 16) (lv' := [some (.ref y5), some (.ref y6), some (.int y7), some (.int y8), some (.int y9), some (.int y10), none]) (st' := [.int y10]) (h' := h11) rfl ?_
    refine zr_if (y10 ≤ 0) 86 19 (st' := []) rfl rfl (fun b12 => ?_) (fun b12 => ?_)
    · have hf := zo_t hf b12
      refine zq_wg 1 (pc' := 88) (lv' := [some (.ref y5), some (.ref y6), some (.int y7), some (.int y8), some (.int y9), some (.int y10), none]) (st' := [.int y9]) (h' := h11) rfl ?_
      exact zr_rb rfl rfl hf
    · have hf := zo_f hf b12
      refine zq_wg 1 (pc' := 21) (lv' := [some (.ref y5), some (.ref y6), some (.int y7), some (.int y8), some (.int y9), some (.int y10), none]) (st' := [.int y9]) (h' := h11) rfl ?_
      refine zr_if (y9 = 0) 86 24 (st' := []) rfl rfl (fun b13 => ?_) (fun b13 => ?_)
      · have hf := zo_t hf b13
        refine zq_wg 1 (pc' := 88) (lv' := [some (.ref y5), some (.ref y6), some (.int y7), some (.int y8), some (.int y9), some (.int y10), none]) (st' := [.int y9]) (h' := h11) rfl ?_
        exact zr_rb rfl rfl hf
      · have hf := zo_f hf b13
        refine zq_wg 2 (pc' := 27) (lv' := [some (.ref y5), some (.ref y6), some (.int y7), some (.int y8), some (.int y9), some (.int y10), none]) (st' := [.int (43 : Int32), .ref y6]) (h' := h11) rfl ?_
        obtain ⟨e17, v15, h14, e16, hf⟩ := zo_v_s hf
        refine zr_cv zq_m38 [.int (43 : Int32)] [] rfl rfl rfl rfl rfl (Nat.le_of_ble_eq_true rfl) (Nat.le_of_ble_eq_true rfl) e17 (zx_Tape_isSign_ok sc d (by omega) e16) ?_
        refine zq_wg 0 (pc' := 30) (lv' := [some (.ref y5), some (.ref y6), some (.int y7), some (.int y8), some (.int y9), some (.int y10), none]) (st' := [.int v15]) (h' := h14) rfl ?_
        obtain ⟨g39_18, hg39_18, hf⟩ := zo_lx hf
        have kg39_18 : ∀ (x18 : Int32), g39_18 x18 = some (ro_, ho_) → zq_wp sc (d + 1) 43 39 [some (.ref y5), some (.ref y6), some (.int y7), some (.int y8), some (.int y9), some (.int y10), none] [.int x18] h14 (some (.int ro_), ho_) := by
          intro x18 hf
          rw [hg39_18] at hf
          refine zq_wg 3 (pc' := 44) (lv' := [some (.ref y5), some (.ref y6), some (.int y7), some (.int y8), some (.int y9), some (.int y10), some (.int x18)]) (st' := [.int (43 : Int32), .ref y6]) (h' := h14) rfl ?_
          obtain ⟨e22, v20, h19, e21, hf⟩ := zo_v_s hf
          refine zr_cv zq_m38 [.int (43 : Int32)] [] rfl rfl rfl rfl rfl (Nat.le_of_ble_eq_true rfl) (Nat.le_of_ble_eq_true rfl) e22 (zx_Tape_isSign_ok sc d (by omega) e21) ?_
          refine zq_wg 0 (pc' := 47) (lv' := [some (.ref y5), some (.ref y6), some (.int y7), some (.int y8), some (.int y9), some (.int y10), some (.int x18)]) (st' := [.int v20]) (h' := h19) rfl ?_
          obtain ⟨j61_29, hjj61_29, hf⟩ := zo_lj hf
          have kj61_29 : ∀ (x23 : Nat) (x24 : Nat) (x25 : Int32) (x26 : Int32) (x27 : Int32) (x28 : Int32) (h29 : zH), j61_29 x23 x24 x25 x26 x27 x28 h29 = some (ro_, ho_) → zq_wp sc (d + 1) 43 61 [some (.ref x23), some (.ref x24), some (.int x25), some (.int x26), none, some (.int x27), some (.int x28)] [] h29 (some (.int ro_), ho_) := by
            intro x23 x24 x25 x26 x27 x28 h29 hf
            rw [hjj61_29] at hf
            refine zq_wg 1 (pc' := 62) (lv' := [some (.ref x23), some (.ref x24), some (.int x25), some (.int x26), none, some (.int x27), some (.int x28)]) (st' := [.ref x24]) (h' := h29) rfl ?_
            obtain ⟨e33, w31, h30, e32, hf⟩ := zo_v_s hf
            refine zr_cv zq_m20 [] [] rfl rfl rfl rfl rfl (Nat.le_of_ble_eq_true rfl) (Nat.le_of_ble_eq_true rfl) e33 (zx_Tape_step_ok sc d (by omega) e32) ?_
            refine zq_wg 0 (pc' := 65) (lv' := [some (.ref x23), some (.ref x24), some (.int x25), some (.int x26), none, some (.int x27), some (.int x28)]) (st' := []) (h' := h30) rfl ?_
            refine zq_wg 4 (pc' := 69) (lv' := [some (.ref x23), some (.ref x24), some (.int x25), some (.int x26), none, some (.int x27), some (.int x28)]) (st' := [.int x26, .int x25, .ref x24, .ref x23]) (h' := h30) rfl ?_
            obtain ⟨e37, v35, h34, e36, hf⟩ := zo_v_s hf
            refine zr_cv zq_m44 [.ref x24, .int x25, .int x26] [] rfl rfl rfl rfl rfl (Nat.le_of_ble_eq_true rfl) (Nat.le_of_ble_eq_true rfl) e37 (hrec 3 x23 x24 x25 x26 h30 _ _ e36) ?_
            refine zq_wg 0 (pc' := 72) (lv' := [some (.ref x23), some (.ref x24), some (.int x25), some (.int x26), none, some (.int x27), some (.int x28)]) (st' := [.int v35]) (h' := h34) rfl ?_
            refine zq_wg 3 (pc' := 77) (lv' := [some (.ref x23), some (.ref x24), some (.int x25), some (.int x26), some (.int v35), some (.int x27), some (.int x28)]) (st' := [.int x28, .ref x23]) (h' := h34) rfl ?_
            obtain ⟨e41, w39, h38, e40, hf⟩ := zo_v_s hf
            refine zr_cv zq_m46 [.int x28] [] rfl rfl rfl rfl rfl (Nat.le_of_ble_eq_true rfl) (Nat.le_of_ble_eq_true rfl) e41 (zx_Laws_add_ok sc d (by omega) e40) ?_
            refine zq_wg 0 (pc' := 80) (lv' := [some (.ref x23), some (.ref x24), some (.int x25), some (.int x26), some (.int v35), some (.int x27), some (.int x28)]) (st' := []) (h' := h38) rfl ?_
            refine zq_wg 2 (pc' := 14) (lv' := [some (.ref x23), some (.ref x24), some (.int x25), some (.int x26), some (.int v35), some (.int (x27 + (-1 : Int32))), some (.int x28)]) (st' := []) (h' := h38) rfl ?_
            refine zq_fg [some (.ref x23), some (.ref x24), some (.int x25), some (.int x26), some (.int v35), some (.int (x27 + (-1 : Int32))), none] (zq_lvle_s (zq_lvle_s (zq_lvle_s (zq_lvle_s (zq_lvle_s (zq_lvle_s (zq_lvle_n zq_lvle_nil))))))) ?_
            exact ih x23 x24 x25 x26 v35 (x27 + (-1 : Int32)) h38 _ _ hf
          refine zr_if (v20 = 0) 50 61 (st' := []) rfl rfl (fun b42 => ?_) (fun b42 => ?_)
          · have hf := zo_t hf b42
            refine zq_wg 2 (pc' := 53) (lv' := [some (.ref y5), some (.ref y6), some (.int y7), some (.int y8), some (.int y9), some (.int y10), some (.int x18)]) (st' := [.int (45 : Int32), .ref y6]) (h' := h19) rfl ?_
            obtain ⟨e46, v44, h43, e45, hf⟩ := zo_v_s hf
            refine zr_cv zq_m38 [.int (45 : Int32)] [] rfl rfl rfl rfl rfl (Nat.le_of_ble_eq_true rfl) (Nat.le_of_ble_eq_true rfl) e46 (zx_Tape_isSign_ok sc d (by omega) e45) ?_
            refine zq_wg 0 (pc' := 56) (lv' := [some (.ref y5), some (.ref y6), some (.int y7), some (.int y8), some (.int y9), some (.int y10), some (.int x18)]) (st' := [.int v44]) (h' := h43) rfl ?_
            refine zr_if (v44 = 0) 59 61 (st' := []) rfl rfl (fun b47 => ?_) (fun b47 => ?_)
            · have hf := zo_t hf b47
              refine zq_wg 1 (pc' := 60) (lv' := [some (.ref y5), some (.ref y6), some (.int y7), some (.int y8), some (.int y9), some (.int y10), some (.int x18)]) (st' := [.int (1 : Int32)]) (h' := h43) rfl ?_
              exact zr_ri rfl rfl rfl hf
            · have hf := zo_f hf b47
              refine zq_fg [some (.ref y5), some (.ref y6), some (.int y7), some (.int y8), none, some (.int y10), some (.int x18)] (zq_lvle_s (zq_lvle_s (zq_lvle_s (zq_lvle_s (zq_lvle_n (zq_lvle_s (zq_lvle_s zq_lvle_nil))))))) ?_
              exact kj61_29 y5 y6 y7 y8 y10 x18 h43 hf
          · have hf := zo_f hf b42
            refine zq_fg [some (.ref y5), some (.ref y6), some (.int y7), some (.int y8), none, some (.int y10), some (.int x18)] (zq_lvle_s (zq_lvle_s (zq_lvle_s (zq_lvle_s (zq_lvle_n (zq_lvle_s (zq_lvle_s zq_lvle_nil))))))) ?_
            exact kj61_29 y5 y6 y7 y8 y10 x18 h19 hf
        refine zr_if (v15 = 0) 37 33 (st' := []) rfl rfl (fun b48 => ?_) (fun b48 => ?_)
        · have hf := zo_lt hf b48
          refine zq_wg 1 (pc' := 39) (lv' := [some (.ref y5), some (.ref y6), some (.int y7), some (.int y8), some (.int y9), some (.int y10), none]) (st' := [.int (-2 : Int32)]) (h' := h14) rfl ?_
          exact kg39_18 _ hf
        · have hf := zo_lf hf b48
          refine zq_wg 2 (pc' := 39) (lv' := [some (.ref y5), some (.ref y6), some (.int y7), some (.int y8), some (.int y9), some (.int y10), none]) (st' := [.int (-1 : Int32)]) (h' := h14) rfl ?_
          exact kg39_18 _ hf
set_option maxRecDepth 4000 in
theorem zx_Laws_readSum_bok (sc : zX) (d : Nat) (hd : 2 ≤ d) (rec : Nat → Nat → Nat → Int32 → Int32 → zH → Option (Int32 × zH)) (hrec : ∀ (zs : Nat) (z0 : Nat) (z1 : Nat) (z2 : Int32) (z3 : Int32) (hz : zH) (rz : Int32) (hy : zH), rec zs z0 z1 z2 z3 hz = some (rz, hy) → zq_wm sc d (if zs = 0 then 41 else if zs = 1 then 42 else if zs = 2 then 43 else if zs = 3 then 44 else 45) [.ref z0, .ref z1, .int z2, .int z3] hz (some (.int rz), hy)) (a0 : Nat) (a1 : Nat) (a2 : Int32) (a3 : Int32) (h : zH) (ro_ : Int32) (ho_ : zH) (hf : zx_Laws_readSum_b sc rec a0 a1 a2 a3 h = some (ro_, ho_)) : zq_wm sc (d + 1) 43 [.ref a0, .ref a1, .int a2, .int a3] h (some (.int ro_), ho_) := by
  unfold zx_Laws_readSum_b at hf
  show zq_wp sc (d + 1) 43 0 [some (.ref a0), some (.ref a1), some (.int a2), some (.int a3), none, none, none] [] h _
  refine zq_wg 4 (pc' := 4) (lv' := [some (.ref a0), some (.ref a1), some (.int a2), some (.int a3), none, none, none]) (st' := [.int a3, .int a2, .ref a1, .ref a0]) (h' := h) rfl ?_
  obtain ⟨e4, v2, h1, e3, hf⟩ := zo_v_s hf
  refine zr_cv zq_m44 [.ref a1, .int a2, .int a3] [] rfl rfl rfl rfl rfl (Nat.le_of_ble_eq_true rfl) (Nat.le_of_ble_eq_true rfl) e4 (hrec 3 a0 a1 a2 a3 h _ _ e3) ?_
  refine zq_wg 0 (pc' := 7) (lv' := [some (.ref a0), some (.ref a1), some (.int a2), some (.int a3), none, none, none]) (st' := [.int v2]) (h' := h1) rfl ?_
  refine zq_wg 3 (pc' := 14) (lv' := [some (.ref a0), some (.ref a1), some (.int a2), some (.int a3), some (.int v2), some (.int (1000 : Int32)), none]) (st' := []) (h' := h1) rfl ?_
  refine zx_Laws_readSum_l14_ok sc d hd rec hrec zo_F a0 a1 a2 a3 v2 (1000 : Int32) h1 _ _ hf
set_option maxRecDepth 4000 in
theorem zx_Laws_readProduct_l14_ok (sc : zX) (d : Nat) (hd : 2 ≤ d) (rec : Nat → Nat → Nat → Int32 → Int32 → zH → Option (Int32 × zH)) (hrec : ∀ (zs : Nat) (z0 : Nat) (z1 : Nat) (z2 : Int32) (z3 : Int32) (hz : zH) (rz : Int32) (hy : zH), rec zs z0 z1 z2 z3 hz = some (rz, hy) → zq_wm sc d (if zs = 0 then 41 else if zs = 1 then 42 else if zs = 2 then 43 else if zs = 3 then 44 else 45) [.ref z0, .ref z1, .int z2, .int z3] hz (some (.int rz), hy)) : ∀ (n : Nat) (y5 : Nat) (y6 : Nat) (y7 : Int32) (y8 : Int32) (y9 : Int32) (y10 : Int32) (h11 : zH) (ro_ : Int32) (ho_ : zH),  zx_Laws_readProduct_l14 sc rec n y5 y6 y7 y8 y9 y10 h11  = some (ro_, ho_) → zq_wp sc (d + 1) 44 14 [some (.ref y5), some (.ref y6), some (.int y7), some (.int y8), some (.int y9), some (.int y10)] [] h11 (some (.int ro_), ho_) := by
  intro n
  induction n with
  | zero => intro y5 y6 y7 y8 y9 y10 h11 ro_ ho_ hf; cases hf
  | succ n ih =>
    intro y5 y6 y7 y8 y9 y10 h11 ro_ ho_ hf
    refine zq_wg 1 (pc' := 16) (lv' := [some (.ref y5), some (.ref y6), some (.int y7), some (.int y8), some (.int y9), some (.int y10)]) (st' := [.int y10]) (h' := h11) rfl ?_
    refine zr_if (y10 ≤ 0) 58 19 (st' := []) rfl rfl (fun b12 => ?_) (fun b12 => ?_)
    · have hf := zo_t hf b12
      refine zq_wg 1 (pc' := 60) (lv' := [some (.ref y5), some (.ref y6), some (.int y7), some (.int y8), some (.int y9), some (.int y10)]) (st' := [.int y9]) (h' := h11) rfl ?_
      exact zr_rb rfl rfl hf
    · have hf := zo_f hf b12
      refine zq_wg 1 (pc' := 21) (lv' := [some (.ref y5), some (.ref y6), some (.int y7), some (.int y8), some (.int y9), some (.int y10)]) (st' := [.int y9]) (h' := h11) rfl ?_
      refine zr_if (y9 = 0) 58 24 (st' := []) rfl rfl (fun b13 => ?_) (fun b13 => ?_)
      · have hf := zo_t hf b13
        refine zq_wg 1 (pc' := 60) (lv' := [some (.ref y5), some (.ref y6), some (.int y7), some (.int y8), some (.int y9), some (.int y10)]) (st' := [.int y9]) (h' := h11) rfl ?_
        exact zr_rb rfl rfl hf
      · have hf := zo_f hf b13
        refine zq_wg 2 (pc' := 27) (lv' := [some (.ref y5), some (.ref y6), some (.int y7), some (.int y8), some (.int y9), some (.int y10)]) (st' := [.int (42 : Int32), .ref y6]) (h' := h11) rfl ?_
        obtain ⟨e17, v15, h14, e16, hf⟩ := zo_v_s hf
        refine zr_cv zq_m38 [.int (42 : Int32)] [] rfl rfl rfl rfl rfl (Nat.le_of_ble_eq_true rfl) (Nat.le_of_ble_eq_true rfl) e17 (zx_Tape_isSign_ok sc d (by omega) e16) ?_
        refine zq_wg 0 (pc' := 30) (lv' := [some (.ref y5), some (.ref y6), some (.int y7), some (.int y8), some (.int y9), some (.int y10)]) (st' := [.int v15]) (h' := h14) rfl ?_
        refine zr_if (v15 = 0) 58 33 (st' := []) rfl rfl (fun b18 => ?_) (fun b18 => ?_)
        · have hf := zo_t hf b18
          refine zq_wg 1 (pc' := 60) (lv' := [some (.ref y5), some (.ref y6), some (.int y7), some (.int y8), some (.int y9), some (.int y10)]) (st' := [.int y9]) (h' := h14) rfl ?_
          exact zr_rb rfl rfl hf
        · have hf := zo_f hf b18
          refine zq_wg 1 (pc' := 34) (lv' := [some (.ref y5), some (.ref y6), some (.int y7), some (.int y8), some (.int y9), some (.int y10)]) (st' := [.ref y6]) (h' := h14) rfl ?_
          obtain ⟨e22, w20, h19, e21, hf⟩ := zo_v_s hf
          refine zr_cv zq_m20 [] [] rfl rfl rfl rfl rfl (Nat.le_of_ble_eq_true rfl) (Nat.le_of_ble_eq_true rfl) e22 (zx_Tape_step_ok sc d (by omega) e21) ?_
          refine zq_wg 0 (pc' := 37) (lv' := [some (.ref y5), some (.ref y6), some (.int y7), some (.int y8), some (.int y9), some (.int y10)]) (st' := []) (h' := h19) rfl ?_
          refine zq_wg 4 (pc' := 41) (lv' := [some (.ref y5), some (.ref y6), some (.int y7), some (.int y8), some (.int y9), some (.int y10)]) (st' := [.int y8, .int y7, .ref y6, .ref y5]) (h' := h19) rfl ?_
          obtain ⟨e26, v24, h23, e25, hf⟩ := zo_v_s hf
          refine zr_cv zq_m45 [.ref y6, .int y7, .int y8] [] rfl rfl rfl rfl rfl (Nat.le_of_ble_eq_true rfl) (Nat.le_of_ble_eq_true rfl) e26 (hrec 4 y5 y6 y7 y8 h19 _ _ e25) ?_
          refine zq_wg 0 (pc' := 44) (lv' := [some (.ref y5), some (.ref y6), some (.int y7), some (.int y8), some (.int y9), some (.int y10)]) (st' := [.int v24]) (h' := h23) rfl ?_
          refine zq_wg 3 (pc' := 49) (lv' := [some (.ref y5), some (.ref y6), some (.int y7), some (.int y8), some (.int v24), some (.int y10)]) (st' := [.int (-3 : Int32), .ref y5]) (h' := h23) rfl ?_
          obtain ⟨e30, w28, h27, e29, hf⟩ := zo_v_s hf
          refine zr_cv zq_m46 [.int (-3 : Int32)] [] rfl rfl rfl rfl rfl (Nat.le_of_ble_eq_true rfl) (Nat.le_of_ble_eq_true rfl) e30 (zx_Laws_add_ok sc d (by omega) e29) ?_
          refine zq_wg 0 (pc' := 52) (lv' := [some (.ref y5), some (.ref y6), some (.int y7), some (.int y8), some (.int v24), some (.int y10)]) (st' := []) (h' := h27) rfl ?_
          refine zq_wg 2 (pc' := 14) (lv' := [some (.ref y5), some (.ref y6), some (.int y7), some (.int y8), some (.int v24), some (.int (y10 + (-1 : Int32)))]) (st' := []) (h' := h27) rfl ?_
          exact ih y5 y6 y7 y8 v24 (y10 + (-1 : Int32)) h27 _ _ hf
set_option maxRecDepth 4000 in
theorem zx_Laws_readProduct_bok (sc : zX) (d : Nat) (hd : 2 ≤ d) (rec : Nat → Nat → Nat → Int32 → Int32 → zH → Option (Int32 × zH)) (hrec : ∀ (zs : Nat) (z0 : Nat) (z1 : Nat) (z2 : Int32) (z3 : Int32) (hz : zH) (rz : Int32) (hy : zH), rec zs z0 z1 z2 z3 hz = some (rz, hy) → zq_wm sc d (if zs = 0 then 41 else if zs = 1 then 42 else if zs = 2 then 43 else if zs = 3 then 44 else 45) [.ref z0, .ref z1, .int z2, .int z3] hz (some (.int rz), hy)) (a0 : Nat) (a1 : Nat) (a2 : Int32) (a3 : Int32) (h : zH) (ro_ : Int32) (ho_ : zH) (hf : zx_Laws_readProduct_b sc rec a0 a1 a2 a3 h = some (ro_, ho_)) : zq_wm sc (d + 1) 44 [.ref a0, .ref a1, .int a2, .int a3] h (some (.int ro_), ho_) := by
  unfold zx_Laws_readProduct_b at hf
  show zq_wp sc (d + 1) 44 0 [some (.ref a0), some (.ref a1), some (.int a2), some (.int a3), none, none] [] h _
  refine zq_wg 4 (pc' := 4) (lv' := [some (.ref a0), some (.ref a1), some (.int a2), some (.int a3), none, none]) (st' := [.int a3, .int a2, .ref a1, .ref a0]) (h' := h) rfl ?_
  obtain ⟨e4, v2, h1, e3, hf⟩ := zo_v_s hf
  refine zr_cv zq_m45 [.ref a1, .int a2, .int a3] [] rfl rfl rfl rfl rfl (Nat.le_of_ble_eq_true rfl) (Nat.le_of_ble_eq_true rfl) e4 (hrec 4 a0 a1 a2 a3 h _ _ e3) ?_
  refine zq_wg 0 (pc' := 7) (lv' := [some (.ref a0), some (.ref a1), some (.int a2), some (.int a3), none, none]) (st' := [.int v2]) (h' := h1) rfl ?_
  refine zq_wg 3 (pc' := 14) (lv' := [some (.ref a0), some (.ref a1), some (.int a2), some (.int a3), some (.int v2), some (.int (1000 : Int32))]) (st' := []) (h' := h1) rfl ?_
  refine zx_Laws_readProduct_l14_ok sc d hd rec hrec zo_F a0 a1 a2 a3 v2 (1000 : Int32) h1 _ _ hf
set_option maxRecDepth 4000 in
theorem zx_Laws_readPart_bok (sc : zX) (d : Nat) (hd : 2 ≤ d) (rec : Nat → Nat → Nat → Int32 → Int32 → zH → Option (Int32 × zH)) (hrec : ∀ (zs : Nat) (z0 : Nat) (z1 : Nat) (z2 : Int32) (z3 : Int32) (hz : zH) (rz : Int32) (hy : zH), rec zs z0 z1 z2 z3 hz = some (rz, hy) → zq_wm sc d (if zs = 0 then 41 else if zs = 1 then 42 else if zs = 2 then 43 else if zs = 3 then 44 else 45) [.ref z0, .ref z1, .int z2, .int z3] hz (some (.int rz), hy)) (a0 : Nat) (a1 : Nat) (a2 : Int32) (a3 : Int32) (h : zH) (ro_ : Int32) (ho_ : zH) (hf : zx_Laws_readPart_b sc rec a0 a1 a2 a3 h = some (ro_, ho_)) : zq_wm sc (d + 1) 45 [.ref a0, .ref a1, .int a2, .int a3] h (some (.int ro_), ho_) := by
  unfold zx_Laws_readPart_b at hf
  show zq_wp sc (d + 1) 45 0 [some (.ref a0), some (.ref a1), some (.int a2), some (.int a3), none, none, none, none] [] h _
  refine zq_wg 3 (pc' := 3) (lv' := [some (.ref a0), some (.ref a1), some (.int a2), some (.int a3), none, none, none, none]) (st' := [.int (2 : Int32), .int a2, .ref a1]) (h' := h) rfl ?_
  obtain ⟨g12_1, hg12_1, hf⟩ := zo_lx hf
  have kg12_1 : ∀ (x1 : Int32), g12_1 x1 = some (ro_, ho_) → zq_wp sc (d + 1) 45 12 [some (.ref a0), some (.ref a1), some (.int a2), some (.int a3), none, none, none, none] [.int x1, .ref a1] h (some (.int ro_), ho_) := by
    intro x1 hf
    rw [hg12_1] at hf
    obtain ⟨e5, v3, h2, e4, hf⟩ := zo_v_s hf
    refine zr_cv zq_m32 [.int x1] [] rfl rfl rfl rfl rfl (Nat.le_of_ble_eq_true rfl) (Nat.le_of_ble_eq_true rfl) e5 (zx_Tape_which_ok sc d (by omega) e4) ?_
    refine zq_wg 0 (pc' := 15) (lv' := [some (.ref a0), some (.ref a1), some (.int a2), some (.int a3), none, none, none, none]) (st' := [.int v3]) (h' := h2) rfl ?_
    refine zq_wg 2 (pc' := 18) (lv' := [some (.ref a0), some (.ref a1), some (.int a2), some (.int a3), some (.int v3), none, none, none]) (st' := [.ref a1]) (h' := h2) rfl ?_
    obtain ⟨v6, e7, hf⟩ := zo_b_s hf
    refine zr_gI rfl rfl (by decide) rfl e7 ?_
    refine zq_wg 1 (pc' := 22) (lv' := [some (.ref a0), some (.ref a1), some (.int a2), some (.int a3), some (.int v3), none, none, none]) (st' := [.int (2 : Int32), .int v6]) (h' := h2) rfl ?_
    obtain ⟨j36_14, hjj36_14, hf⟩ := zo_lj hf
    have kj36_14 : ∀ (x8 : Nat) (x9 : Nat) (x10 : Int32) (x11 : Int32) (x12 : Int32) (x13 : Int32) (h14 : zH), j36_14 x8 x9 x10 x11 x12 x13 h14 = some (ro_, ho_) → zq_wp sc (d + 1) 45 36 [some (.ref x8), some (.ref x9), some (.int x10), some (.int x11), some (.int x12), none, none, none] [.int x13] h14 (some (.int ro_), ho_) := by
      intro x8 x9 x10 x11 x12 x13 h14 hf
      rw [hjj36_14] at hf
      refine zq_wg 2 (pc' := 39) (lv' := [some (.ref x8), some (.ref x9), some (.int x10), some (.int x11), some (.int x12), some (.int x13), none, none]) (st' := [.ref x9]) (h' := h14) rfl ?_
      obtain ⟨v15, e16, hf⟩ := zo_b_s hf
      refine zr_gQ rfl rfl (by decide) rfl e16 ?_
      refine zq_wg 1 (pc' := 45) (lv' := [some (.ref x8), some (.ref x9), some (.int x10), some (.int x11), some (.int x12), some (.int x13), none, none]) (st' := [.ref 8, va_rf v15]) (h' := h14) rfl ?_
      obtain ⟨j53_24, hjj53_24, hf⟩ := zo_lj hf
      have kj53_24 : ∀ (x17 : Nat) (x18 : Nat) (x19 : Int32) (x20 : Int32) (x21 : Int32) (x22 : Int32) (x23 : Int32) (h24 : zH), j53_24 x17 x18 x19 x20 x21 x22 x23 h24 = some (ro_, ho_) → zq_wp sc (d + 1) 45 53 [some (.ref x17), some (.ref x18), some (.int x19), some (.int x20), some (.int x21), some (.int x22), none, none] [.int x23] h24 (some (.int ro_), ho_) := by
        intro x17 x18 x19 x20 x21 x22 x23 h24 hf
        rw [hjj53_24] at hf
        refine zq_wg 2 (pc' := 57) (lv' := [some (.ref x17), some (.ref x18), some (.int x19), some (.int x20), some (.int x21), some (.int x22), some (.int x23), none]) (st' := [.int x22]) (h' := h24) rfl ?_
        obtain ⟨j80_32, hjj80_32, hf⟩ := zo_lj hf
        have kj80_32 : ∀ (x25 : Nat) (x26 : Nat) (x27 : Int32) (x28 : Int32) (x29 : Int32) (x30 : Int32) (x31 : Int32) (h32 : zH), j80_32 x25 x26 x27 x28 x29 x30 x31 h32 = some (ro_, ho_) → zq_wp sc (d + 1) 45 80 [some (.ref x25), some (.ref x26), some (.int x27), some (.int x28), some (.int x29), some (.int x30), some (.int x31), none] [] h32 (some (.int ro_), ho_) := by
          intro x25 x26 x27 x28 x29 x30 x31 h32 hf
          rw [hjj80_32] at hf
          refine zq_wg 2 (pc' := 82) (lv' := [some (.ref x25), some (.ref x26), some (.int x27), some (.int x28), some (.int x29), some (.int x30), some (.int x31), none]) (st' := [.int (5 : Int32), .int x28]) (h' := h32) rfl ?_
          refine zr_if (x28 < (5 : Int32)) 91 85 (st' := []) rfl rfl (fun b33 => ?_) (fun b33 => ?_)
          · have hf := zo_t hf b33
            refine zq_wg 1 (pc' := 93) (lv' := [some (.ref x25), some (.ref x26), some (.int x27), some (.int x28), some (.int x29), some (.int x30), some (.int x31), none]) (st' := [.int x30]) (h' := h32) rfl ?_
            refine zr_if (x30 = 0) 125 96 (st' := []) rfl rfl (fun b34 => ?_) (fun b34 => ?_)
            · have hf := zo_t hf b34
              refine zq_wg 1 (pc' := 126) (lv' := [some (.ref x25), some (.ref x26), some (.int x27), some (.int x28), some (.int x29), some (.int x30), some (.int x31), none]) (st' := [.ref x26]) (h' := h32) rfl ?_
              obtain ⟨e38, w36, h35, e37, hf⟩ := zo_v_s hf
              refine zr_cv zq_m20 [] [] rfl rfl rfl rfl rfl (Nat.le_of_ble_eq_true rfl) (Nat.le_of_ble_eq_true rfl) e38 (zx_Tape_step_ok sc d (by omega) e37) ?_
              refine zq_wg 0 (pc' := 129) (lv' := [some (.ref x25), some (.ref x26), some (.int x27), some (.int x28), some (.int x29), some (.int x30), some (.int x31), none]) (st' := []) (h' := h35) rfl ?_
              refine zq_wg 1 (pc' := 131) (lv' := [some (.ref x25), some (.ref x26), some (.int x27), some (.int x28), some (.int x29), some (.int x30), some (.int x31), none]) (st' := [.int x31]) (h' := h35) rfl ?_
              refine zr_if (x31 = 0) 154 134 (st' := []) rfl rfl (fun b39 => ?_) (fun b39 => ?_)
              · have hf := zo_t hf b39
                refine zq_wg 6 (pc' := 160) (lv' := [some (.ref x25), some (.ref x26), some (.int x27), some (.int x28), some (.int x29), some (.int x30), some (.int x31), none]) (st' := [.int (x28 + (1 : Int32)), .int x27, .ref x26, .ref x25]) (h' := h35) rfl ?_
                obtain ⟨e43, v41, h40, e42, hf⟩ := zo_v_s hf
                refine zr_cv zq_m41 [.ref x26, .int x27, .int (x28 + (1 : Int32))] [] rfl rfl rfl rfl rfl (Nat.le_of_ble_eq_true rfl) (Nat.le_of_ble_eq_true rfl) e43 (hrec 0 x25 x26 x27 (x28 + (1 : Int32)) h35 _ _ e42) ?_
                refine zq_wg 0 (pc' := 163) (lv' := [some (.ref x25), some (.ref x26), some (.int x27), some (.int x28), some (.int x29), some (.int x30), some (.int x31), none]) (st' := [.int v41]) (h' := h40) rfl ?_
                refine zr_if (v41 = 0) 179 166 (st' := []) rfl rfl (fun b44 => ?_) (fun b44 => ?_)
                · have hf := zo_t hf b44
                  refine zq_wg 1 (pc' := 180) (lv' := [some (.ref x25), some (.ref x26), some (.int x27), some (.int x28), some (.int x29), some (.int x30), some (.int x31), none]) (st' := [.int (0 : Int32)]) (h' := h40) rfl ?_
                  exact zr_ri rfl rfl rfl hf
                · have hf := zo_f hf b44
                  refine zq_wg 2 (pc' := 169) (lv' := [some (.ref x25), some (.ref x26), some (.int x27), some (.int x28), some (.int x29), some (.int x30), some (.int x31), none]) (st' := [.int (41 : Int32), .ref x26]) (h' := h40) rfl ?_
                  obtain ⟨e48, v46, h45, e47, hf⟩ := zo_v_s hf
                  refine zr_cv zq_m37 [.int (41 : Int32)] [] rfl rfl rfl rfl rfl (Nat.le_of_ble_eq_true rfl) (Nat.le_of_ble_eq_true rfl) e48 (zx_Tape_takeSign_ok sc d (by omega) e47) ?_
                  refine zq_wg 0 (pc' := 172) (lv' := [some (.ref x25), some (.ref x26), some (.int x27), some (.int x28), some (.int x29), some (.int x30), some (.int x31), none]) (st' := [.int v46]) (h' := h45) rfl ?_
                  refine zr_if (v46 = 0) 179 175 (st' := []) rfl rfl (fun b49 => ?_) (fun b49 => ?_)
                  · have hf := zo_t hf b49
                    refine zq_wg 1 (pc' := 180) (lv' := [some (.ref x25), some (.ref x26), some (.int x27), some (.int x28), some (.int x29), some (.int x30), some (.int x31), none]) (st' := [.int (0 : Int32)]) (h' := h45) rfl ?_
                    exact zr_ri rfl rfl rfl hf
                  · have hf := zo_f hf b49
                    refine zq_wg 2 (pc' := 180) (lv' := [some (.ref x25), some (.ref x26), some (.int x27), some (.int x28), some (.int x29), some (.int x30), some (.int x31), none]) (st' := [.int (1 : Int32)]) (h' := h45) rfl ?_
                    exact zr_ri rfl rfl rfl hf
              · have hf := zo_f hf b39
                refine zq_wg 6 (pc' := 140) (lv' := [some (.ref x25), some (.ref x26), some (.int x27), some (.int x28), some (.int x29), some (.int x30), some (.int x31), none]) (st' := [.int (x28 + (1 : Int32)), .int x27, .ref x26, .ref x25]) (h' := h35) rfl ?_
                obtain ⟨e53, v51, h50, e52, hf⟩ := zo_v_s hf
                refine zr_cv zq_m45 [.ref x26, .int x27, .int (x28 + (1 : Int32))] [] rfl rfl rfl rfl rfl (Nat.le_of_ble_eq_true rfl) (Nat.le_of_ble_eq_true rfl) e53 (hrec 4 x25 x26 x27 (x28 + (1 : Int32)) h35 _ _ e52) ?_
                refine zq_wg 0 (pc' := 143) (lv' := [some (.ref x25), some (.ref x26), some (.int x27), some (.int x28), some (.int x29), some (.int x30), some (.int x31), none]) (st' := [.int v51]) (h' := h50) rfl ?_
                refine zq_wg 3 (pc' := 148) (lv' := [some (.ref x25), some (.ref x26), some (.int x27), some (.int x28), some (.int x29), some (.int x30), some (.int x31), some (.int v51)]) (st' := [.int (-6 : Int32), .ref x25]) (h' := h50) rfl ?_
                obtain ⟨e57, w55, h54, e56, hf⟩ := zo_v_s hf
                refine zr_cv zq_m46 [.int (-6 : Int32)] [] rfl rfl rfl rfl rfl (Nat.le_of_ble_eq_true rfl) (Nat.le_of_ble_eq_true rfl) e57 (zx_Laws_add_ok sc d (by omega) e56) ?_
                refine zq_wg 0 (pc' := 151) (lv' := [some (.ref x25), some (.ref x26), some (.int x27), some (.int x28), some (.int x29), some (.int x30), some (.int x31), some (.int v51)]) (st' := []) (h' := h54) rfl ?_
                refine zq_wg 1 (pc' := 153) (lv' := [some (.ref x25), some (.ref x26), some (.int x27), some (.int x28), some (.int x29), some (.int x30), some (.int x31), some (.int v51)]) (st' := [.int v51]) (h' := h54) rfl ?_
                exact zr_rb rfl rfl hf
            · have hf := zo_f hf b34
              refine zq_wg 3 (pc' := 100) (lv' := [some (.ref x25), some (.ref x26), some (.int x27), some (.int x28), some (.int x29), some (.int x30), some (.int x31), none]) (st' := [.int (-1 : Int32), .int x29, .ref x25]) (h' := h32) rfl ?_
              obtain ⟨j116_61, hjj116_61, hf⟩ := zo_lj hf
              have kj116_61 : ∀ (x58 : Nat) (x59 : Nat) (x60 : Int32) (h61 : zH), j116_61 x58 x59 x60 h61 = some (ro_, ho_) → zq_wp sc (d + 1) 45 116 [none, some (.ref x58), none, none, none, none, none, none] [.int x60, .ref x59] h61 (some (.int ro_), ho_) := by
                intro x58 x59 x60 h61 hf
                rw [hjj116_61] at hf
                obtain ⟨e65, w63, h62, e64, hf⟩ := zo_v_s hf
                refine zr_cv zq_m46 [.int x60] [] rfl rfl rfl rfl rfl (Nat.le_of_ble_eq_true rfl) (Nat.le_of_ble_eq_true rfl) e65 (zx_Laws_add_ok sc d (by omega) e64) ?_
                refine zq_wg 0 (pc' := 119) (lv' := [none, some (.ref x58), none, none, none, none, none, none]) (st' := []) (h' := h62) rfl ?_
                refine zq_wg 1 (pc' := 120) (lv' := [none, some (.ref x58), none, none, none, none, none, none]) (st' := [.ref x58]) (h' := h62) rfl ?_
                obtain ⟨e69, w67, h66, e68, hf⟩ := zo_v_s hf
                refine zr_cv zq_m20 [] [] rfl rfl rfl rfl rfl (Nat.le_of_ble_eq_true rfl) (Nat.le_of_ble_eq_true rfl) e69 (zx_Tape_step_ok sc d (by omega) e68) ?_
                refine zq_wg 0 (pc' := 123) (lv' := [none, some (.ref x58), none, none, none, none, none, none]) (st' := []) (h' := h66) rfl ?_
                refine zq_wg 1 (pc' := 124) (lv' := [none, some (.ref x58), none, none, none, none, none, none]) (st' := [.int (1 : Int32)]) (h' := h66) rfl ?_
                exact zr_ri rfl rfl rfl hf
              refine zr_if (x29 = (-1 : Int32)) 111 103 (st' := [.ref x25]) rfl rfl (fun b70 => ?_) (fun b70 => ?_)
              · have hf := zo_t hf b70
                refine zq_wg 1 (pc' := 112) (lv' := [some (.ref x25), some (.ref x26), some (.int x27), some (.int x28), some (.int x29), some (.int x30), some (.int x31), none]) (st' := [.ref x26, .ref x25]) (h' := h32) rfl ?_
                obtain ⟨v71, e72, hf⟩ := zo_b_s hf
                refine zr_gL rfl rfl (by decide) rfl e72 ?_
                refine zq_wg 1 (pc' := 116) (lv' := [some (.ref x25), some (.ref x26), some (.int x27), some (.int x28), some (.int x29), some (.int x30), some (.int x31), none]) (st' := [.int v71.toInt32, .ref x25]) (h' := h32) rfl ?_
                refine zq_fg [none, some (.ref x26), none, none, none, none, none, none] (zq_lvle_n (zq_lvle_s (zq_lvle_n (zq_lvle_n (zq_lvle_n (zq_lvle_n (zq_lvle_n (zq_lvle_s zq_lvle_nil)))))))) ?_
                exact kj116_61 x26 x25 v71.toInt32 h32 hf
              · have hf := zo_f hf b70
                refine zq_wg 4 (pc' := 116) (lv' := [some (.ref x25), some (.ref x26), some (.int x27), some (.int x28), some (.int x29), some (.int x30), some (.int x31), none]) (st' := [.int ((-16 : Int32) - x29), .ref x25]) (h' := h32) rfl ?_
                refine zq_fg [none, some (.ref x26), none, none, none, none, none, none] (zq_lvle_n (zq_lvle_s (zq_lvle_n (zq_lvle_n (zq_lvle_n (zq_lvle_n (zq_lvle_n (zq_lvle_s zq_lvle_nil)))))))) ?_
                exact kj116_61 x26 x25 ((-16 : Int32) - x29) h32 hf
          · have hf := zo_f hf b33
            refine zq_wg 2 (pc' := 87) (lv' := [some (.ref x25), some (.ref x26), some (.int x27), some (.int x28), some (.int x29), some (.int x30), some (.int x31), none]) (st' := [.int (5 : Int32), .ref x26]) (h' := h32) rfl ?_
            obtain ⟨e76, v74, h73, e75, hf⟩ := zo_v_s hf
            refine zr_cv zq_m26 [.int (5 : Int32)] [] rfl rfl rfl rfl rfl (Nat.le_of_ble_eq_true rfl) (Nat.le_of_ble_eq_true rfl) e76 (zx_Tape_wrong_ok sc d (by omega) e75) ?_
            refine zq_wg 0 (pc' := 90) (lv' := [some (.ref x25), some (.ref x26), some (.int x27), some (.int x28), some (.int x29), some (.int x30), some (.int x31), none]) (st' := [.int v74]) (h' := h73) rfl ?_
            exact zr_rb rfl rfl hf
        refine zr_if (x22 = 0) 60 80 (st' := []) rfl rfl (fun b77 => ?_) (fun b77 => ?_)
        · have hf := zo_t hf b77
          refine zq_wg 1 (pc' := 62) (lv' := [some (.ref x17), some (.ref x18), some (.int x19), some (.int x20), some (.int x21), some (.int x22), some (.int x23), none]) (st' := [.int x23]) (h' := h24) rfl ?_
          refine zr_if (x23 = 0) 65 80 (st' := []) rfl rfl (fun b78 => ?_) (fun b78 => ?_)
          · have hf := zo_t hf b78
            refine zq_wg 2 (pc' := 68) (lv' := [some (.ref x17), some (.ref x18), some (.int x19), some (.int x20), some (.int x21), some (.int x22), some (.int x23), none]) (st' := [.int (40 : Int32), .ref x18]) (h' := h24) rfl ?_
            obtain ⟨e82, v80, h79, e81, hf⟩ := zo_v_s hf
            refine zr_cv zq_m38 [.int (40 : Int32)] [] rfl rfl rfl rfl rfl (Nat.le_of_ble_eq_true rfl) (Nat.le_of_ble_eq_true rfl) e82 (zx_Tape_isSign_ok sc d (by omega) e81) ?_
            refine zq_wg 0 (pc' := 71) (lv' := [some (.ref x17), some (.ref x18), some (.int x19), some (.int x20), some (.int x21), some (.int x22), some (.int x23), none]) (st' := [.int v80]) (h' := h79) rfl ?_
            refine zr_if (v80 = 0) 74 80 (st' := []) rfl rfl (fun b83 => ?_) (fun b83 => ?_)
            · have hf := zo_t hf b83
              refine zq_wg 2 (pc' := 76) (lv' := [some (.ref x17), some (.ref x18), some (.int x19), some (.int x20), some (.int x21), some (.int x22), some (.int x23), none]) (st' := [.int (1 : Int32), .ref x18]) (h' := h79) rfl ?_
              obtain ⟨e87, v85, h84, e86, hf⟩ := zo_v_s hf
              refine zr_cv zq_m26 [.int (1 : Int32)] [] rfl rfl rfl rfl rfl (Nat.le_of_ble_eq_true rfl) (Nat.le_of_ble_eq_true rfl) e87 (zx_Tape_wrong_ok sc d (by omega) e86) ?_
              refine zq_wg 0 (pc' := 79) (lv' := [some (.ref x17), some (.ref x18), some (.int x19), some (.int x20), some (.int x21), some (.int x22), some (.int x23), none]) (st' := [.int v85]) (h' := h84) rfl ?_
              exact zr_rb rfl rfl hf
            · have hf := zo_f hf b83
              exact kj80_32 x17 x18 x19 x20 x21 x22 x23 h79 hf
          · have hf := zo_f hf b78
            exact kj80_32 x17 x18 x19 x20 x21 x22 x23 h24 hf
        · have hf := zo_f hf b77
          exact kj80_32 x17 x18 x19 x20 x21 x22 x23 h24 hf
      by_cases b89 : zo_okb v15 = true
      case neg => rw [if_neg b89] at hf; cases hf
      have hf := zo_t hf b89
      refine zr_ane v15 (some 8) rfl rfl (zo_okb_ok b89) (zo_okb_ok rfl) (fun b88 => ?_) (fun b88 => ?_)
      · have hf := zo_t hf b88
        refine zq_wg 2 (pc' := 53) (lv' := [some (.ref x8), some (.ref x9), some (.int x10), some (.int x11), some (.int x12), some (.int x13), none, none]) (st' := [.int (1 : Int32)]) (h' := h14) rfl ?_
        exact kj53_24 x8 x9 x10 x11 x12 x13 (1 : Int32) h14 hf
      · have hf := zo_f hf b88
        refine zq_wg 1 (pc' := 53) (lv' := [some (.ref x8), some (.ref x9), some (.int x10), some (.int x11), some (.int x12), some (.int x13), none, none]) (st' := [.int (0 : Int32)]) (h' := h14) rfl ?_
        exact kj53_24 x8 x9 x10 x11 x12 x13 (0 : Int32) h14 hf
    obtain ⟨j31_95, hjj31_95, hf⟩ := zo_lj hf
    have kj31_95 : ∀ (x90 : Nat) (x91 : Nat) (x92 : Int32) (x93 : Int32) (x94 : Int32) (h95 : zH), j31_95 x90 x91 x92 x93 x94 h95 = some (ro_, ho_) → zq_wp sc (d + 1) 45 31 [some (.ref x90), some (.ref x91), some (.int x92), some (.int x93), some (.int x94), none, none, none] [] h95 (some (.int ro_), ho_) := by
      intro x90 x91 x92 x93 x94 h95 hf
      rw [hjj31_95] at hf
      refine zq_wg 2 (pc' := 36) (lv' := [some (.ref x90), some (.ref x91), some (.int x92), some (.int x93), some (.int x94), none, none, none]) (st' := [.int (1 : Int32)]) (h' := h95) rfl ?_
      exact kj36_14 x90 x91 x92 x93 x94 (1 : Int32) h95 hf
    refine zr_if (v6 = (2 : Int32)) 31 25 (st' := []) rfl rfl (fun b96 => ?_) (fun b96 => ?_)
    · have hf := zo_t hf b96
      exact kj31_95 a0 a1 a2 a3 v3 h2 hf
    · have hf := zo_f hf b96
      refine zq_wg 2 (pc' := 28) (lv' := [some (.ref a0), some (.ref a1), some (.int a2), some (.int a3), some (.int v3), none, none, none]) (st' := [.int (-1 : Int32), .int v3]) (h' := h2) rfl ?_
      refine zr_if (v3 = (-1 : Int32)) 35 31 (st' := []) rfl rfl (fun b97 => ?_) (fun b97 => ?_)
      · have hf := zo_t hf b97
        refine zq_wg 1 (pc' := 36) (lv' := [some (.ref a0), some (.ref a1), some (.int a2), some (.int a3), some (.int v3), none, none, none]) (st' := [.int (0 : Int32)]) (h' := h2) rfl ?_
        exact kj36_14 a0 a1 a2 a3 v3 (0 : Int32) h2 hf
      · have hf := zo_f hf b97
        exact kj31_95 a0 a1 a2 a3 v3 h2 hf
  refine zr_if (a2 = (2 : Int32)) 6 11 (st' := [.ref a1]) rfl rfl (fun b98 => ?_) (fun b98 => ?_)
  · have hf := zo_lt hf b98
    refine zq_wg 2 (pc' := 12) (lv' := [some (.ref a0), some (.ref a1), some (.int a2), some (.int a3), none, none, none, none]) (st' := [.int (6 : Int32), .ref a1]) (h' := h) rfl ?_
    exact kg12_1 _ hf
  · have hf := zo_lf hf b98
    refine zq_wg 1 (pc' := 12) (lv' := [some (.ref a0), some (.ref a1), some (.int a2), some (.int a3), none, none, none, none]) (st' := [.int (5 : Int32), .ref a1]) (h' := h) rfl ?_
    exact kg12_1 _ hf
def zx_Laws_readTests_grp (sc : zX) : Nat → Nat → Nat → Nat → Int32 → Int32 → zH → Option (Int32 × zH)
  | 0, _, _, _, _, _, _ => none
  | n + 1, s, a0, a1, a2, a3, h => if s = 0 then zx_Laws_readTests_b sc (zx_Laws_readTests_grp sc n) a0 a1 a2 a3 h else if s = 1 then zx_Laws_readTest_b sc (zx_Laws_readTests_grp sc n) a0 a1 a2 a3 h else if s = 2 then zx_Laws_readSum_b sc (zx_Laws_readTests_grp sc n) a0 a1 a2 a3 h else if s = 3 then zx_Laws_readProduct_b sc (zx_Laws_readTests_grp sc n) a0 a1 a2 a3 h else zx_Laws_readPart_b sc (zx_Laws_readTests_grp sc n) a0 a1 a2 a3 h
theorem zx_Laws_readTests_grp_ok (sc : zX) : ∀ (n d : Nat) (hd : n + 3 ≤ d) (s : Nat) (a0 : Nat) (a1 : Nat) (a2 : Int32) (a3 : Int32) (h : zH) (ro_ : Int32) (ho_ : zH) (hf : zx_Laws_readTests_grp sc n s a0 a1 a2 a3 h = some (ro_, ho_)), zq_wm sc d (if s = 0 then 41 else if s = 1 then 42 else if s = 2 then 43 else if s = 3 then 44 else 45) [.ref a0, .ref a1, .int a2, .int a3] h (some (.int ro_), ho_) := by
  intro n
  induction n with
  | zero => intro d hd s a0 a1 a2 a3 h ro_ ho_ hf; cases hf
  | succ n ih =>
    intro d hd s a0 a1 a2 a3 h ro_ ho_ hf
    obtain ⟨d, rfl⟩ : ∃ d', d = d' + 1 := ⟨d - 1, by omega⟩
    have hrec := ih d (by omega)
    have hf2 : (if s = 0 then zx_Laws_readTests_b sc (zx_Laws_readTests_grp sc n) a0 a1 a2 a3 h else if s = 1 then zx_Laws_readTest_b sc (zx_Laws_readTests_grp sc n) a0 a1 a2 a3 h else if s = 2 then zx_Laws_readSum_b sc (zx_Laws_readTests_grp sc n) a0 a1 a2 a3 h else if s = 3 then zx_Laws_readProduct_b sc (zx_Laws_readTests_grp sc n) a0 a1 a2 a3 h else zx_Laws_readPart_b sc (zx_Laws_readTests_grp sc n) a0 a1 a2 a3 h) = some (ro_, ho_) := hf
    by_cases hs0 : s = 0
    · rw [if_pos hs0] at hf2 ⊢
      exact zx_Laws_readTests_bok sc d (by omega) (zx_Laws_readTests_grp sc n) hrec a0 a1 a2 a3 h ro_ ho_ hf2
    rw [if_neg hs0] at hf2 ⊢
    by_cases hs1 : s = 1
    · rw [if_pos hs1] at hf2 ⊢
      exact zx_Laws_readTest_bok sc d (by omega) (zx_Laws_readTests_grp sc n) hrec a0 a1 a2 a3 h ro_ ho_ hf2
    rw [if_neg hs1] at hf2 ⊢
    by_cases hs2 : s = 2
    · rw [if_pos hs2] at hf2 ⊢
      exact zx_Laws_readSum_bok sc d (by omega) (zx_Laws_readTests_grp sc n) hrec a0 a1 a2 a3 h ro_ ho_ hf2
    rw [if_neg hs2] at hf2 ⊢
    by_cases hs3 : s = 3
    · rw [if_pos hs3] at hf2 ⊢
      exact zx_Laws_readProduct_bok sc d (by omega) (zx_Laws_readTests_grp sc n) hrec a0 a1 a2 a3 h ro_ ho_ hf2
    rw [if_neg hs3] at hf2 ⊢
    exact zx_Laws_readPart_bok sc d (by omega) (zx_Laws_readTests_grp sc n) hrec a0 a1 a2 a3 h ro_ ho_ hf2
def zx_Laws_readTests (sc : zX) (n : Nat) (a0 : Nat) (a1 : Nat) (a2 : Int32) (a3 : Int32) (h : zH) : Option (Int32 × zH) := zx_Laws_readTests_grp sc n 0 a0 a1 a2 a3 h
theorem zx_Laws_readTests_ok (sc : zX) (n d : Nat) (hd : n + 3 ≤ d) {a0 : Nat} {a1 : Nat} {a2 : Int32} {a3 : Int32} {h : zH} {ro_ : Int32} {ho_ : zH} (hf : zx_Laws_readTests sc n a0 a1 a2 a3 h = some (ro_, ho_)) : zq_wm sc d 41 [.ref a0, .ref a1, .int a2, .int a3] h (some (.int ro_), ho_) := zx_Laws_readTests_grp_ok sc n d hd 0 a0 a1 a2 a3 h ro_ ho_ hf
def zx_Laws_readTest (sc : zX) (n : Nat) (a0 : Nat) (a1 : Nat) (a2 : Int32) (a3 : Int32) (h : zH) : Option (Int32 × zH) := zx_Laws_readTests_grp sc n 1 a0 a1 a2 a3 h
theorem zx_Laws_readTest_ok (sc : zX) (n d : Nat) (hd : n + 3 ≤ d) {a0 : Nat} {a1 : Nat} {a2 : Int32} {a3 : Int32} {h : zH} {ro_ : Int32} {ho_ : zH} (hf : zx_Laws_readTest sc n a0 a1 a2 a3 h = some (ro_, ho_)) : zq_wm sc d 42 [.ref a0, .ref a1, .int a2, .int a3] h (some (.int ro_), ho_) := zx_Laws_readTests_grp_ok sc n d hd 1 a0 a1 a2 a3 h ro_ ho_ hf
def zx_Laws_readSum (sc : zX) (n : Nat) (a0 : Nat) (a1 : Nat) (a2 : Int32) (a3 : Int32) (h : zH) : Option (Int32 × zH) := zx_Laws_readTests_grp sc n 2 a0 a1 a2 a3 h
theorem zx_Laws_readSum_ok (sc : zX) (n d : Nat) (hd : n + 3 ≤ d) {a0 : Nat} {a1 : Nat} {a2 : Int32} {a3 : Int32} {h : zH} {ro_ : Int32} {ho_ : zH} (hf : zx_Laws_readSum sc n a0 a1 a2 a3 h = some (ro_, ho_)) : zq_wm sc d 43 [.ref a0, .ref a1, .int a2, .int a3] h (some (.int ro_), ho_) := zx_Laws_readTests_grp_ok sc n d hd 2 a0 a1 a2 a3 h ro_ ho_ hf
def zx_Laws_readProduct (sc : zX) (n : Nat) (a0 : Nat) (a1 : Nat) (a2 : Int32) (a3 : Int32) (h : zH) : Option (Int32 × zH) := zx_Laws_readTests_grp sc n 3 a0 a1 a2 a3 h
theorem zx_Laws_readProduct_ok (sc : zX) (n d : Nat) (hd : n + 3 ≤ d) {a0 : Nat} {a1 : Nat} {a2 : Int32} {a3 : Int32} {h : zH} {ro_ : Int32} {ho_ : zH} (hf : zx_Laws_readProduct sc n a0 a1 a2 a3 h = some (ro_, ho_)) : zq_wm sc d 44 [.ref a0, .ref a1, .int a2, .int a3] h (some (.int ro_), ho_) := zx_Laws_readTests_grp_ok sc n d hd 3 a0 a1 a2 a3 h ro_ ho_ hf
def zx_Laws_readPart (sc : zX) (n : Nat) (a0 : Nat) (a1 : Nat) (a2 : Int32) (a3 : Int32) (h : zH) : Option (Int32 × zH) := zx_Laws_readTests_grp sc n 4 a0 a1 a2 a3 h
theorem zx_Laws_readPart_ok (sc : zX) (n d : Nat) (hd : n + 3 ≤ d) {a0 : Nat} {a1 : Nat} {a2 : Int32} {a3 : Int32} {h : zH} {ro_ : Int32} {ho_ : zH} (hf : zx_Laws_readPart sc n a0 a1 a2 a3 h = some (ro_, ho_)) : zq_wm sc d 45 [.ref a0, .ref a1, .int a2, .int a3] h (some (.int ro_), ho_) := zx_Laws_readTests_grp_ok sc n d hd 4 a0 a1 a2 a3 h ro_ ho_ hf
