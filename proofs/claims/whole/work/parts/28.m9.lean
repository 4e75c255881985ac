/-! methods as functions, and their walks; printed by wip/whole/decomp.py -/
set_option maxRecDepth 4000 in
def zm_isInRing_l4 (sc : zX) : Nat → Nat → Int32 → Int32 → Int32 → zH → Option (Int32 × zH)
  | 0, _, _, _, _, _ => none
  | n + 1, y1, y2, y3, y4, h5 => if (6 : Int32) ≤ y4 then (some ((0 : Int32), h5)) else (zo_b (zo_gR h5 10 y1 25) (fun v7 => zo_b (zo_gR h5 10 y1 39) (fun v9 => zo_b (zq_rdI sc h5 v9 y3) (fun v11 => zo_b (zq_rdI sc h5 v7 ((4 : Int32) + v11)) (fun v13 => if v13 = y2 then (some ((1 : Int32), h5)) else (zm_isInRing_l4 sc n y1 y2 v13 (y4 + (1 : Int32)) h5 ))))))
set_option maxRecDepth 4000 in
def zm_isInRing (sc : zX) (a0 : Nat) (a1 : Int32) (h : zH) : Option (Int32 × zH) := zm_isInRing_l4 sc zo_F a0 a1 a1 (0 : Int32) h 
set_option maxRecDepth 4000 in
theorem zm_isInRing_l4_ok (sc : zX) (d : Nat) : ∀ (n : Nat) (y1 : Nat) (y2 : Int32) (y3 : Int32) (y4 : Int32) (h5 : zH) (ro_ : Int32) (ho_ : zH),  zm_isInRing_l4 sc n y1 y2 y3 y4 h5  = some (ro_, ho_) → zq_wp sc d 238 4 [some (.ref y1), some (.int y2), some (.int y3), some (.int y4)] [] h5 (some (.int ro_), ho_) := by
  intro n
  induction n with
  | zero => intro y1 y2 y3 y4 h5 ro_ ho_ hf; cases hf
  | succ n ih =>
    intro y1 y2 y3 y4 h5 ro_ ho_ hf
    refine zq_wg 2 (pc' := 7) (lv' := [some (.ref y1), some (.int y2), some (.int y3), some (.int y4)]) (st' := [.int (6 : Int32), .int y4]) (h' := h5) rfl ?_
    refine zr_if ((6 : Int32) ≤ y4) 37 10 (st' := []) rfl rfl (fun b6 => ?_) (fun b6 => ?_)
    · have hf := zo_t hf b6
      refine zq_wg 1 (pc' := 38) (lv' := [some (.ref y1), some (.int y2), some (.int y3), some (.int y4)]) (st' := [.int (0 : Int32)]) (h' := h5) rfl ?_
      exact zr_ri rfl rfl rfl hf
    · have hf := zo_f hf b6
      refine zq_wg 1 (pc' := 11) (lv' := [some (.ref y1), some (.int y2), some (.int y3), some (.int y4)]) (st' := [.ref y1]) (h' := h5) rfl ?_
      obtain ⟨v7, e8, hf⟩ := zo_b_s hf
      refine zr_gR rfl rfl (by decide) rfl e8 ?_
      refine zq_wg 2 (pc' := 16) (lv' := [some (.ref y1), some (.int y2), some (.int y3), some (.int y4)]) (st' := [.ref y1, .int (4 : Int32), .ref v7]) (h' := h5) rfl ?_
      obtain ⟨v9, e10, hf⟩ := zo_b_s hf
      refine zr_gR rfl rfl (by decide) rfl e10 ?_
      refine zq_wg 1 (pc' := 20) (lv' := [some (.ref y1), some (.int y2), some (.int y3), some (.int y4)]) (st' := [.int y3, .ref v9, .int (4 : Int32), .ref v7]) (h' := h5) rfl ?_
      obtain ⟨v11, e12, hf⟩ := zo_b_s hf
      refine zr_iald rfl e12 ?_
      refine zq_wg 1 (pc' := 22) (lv' := [some (.ref y1), some (.int y2), some (.int y3), some (.int y4)]) (st' := [.int ((4 : Int32) + v11), .ref v7]) (h' := h5) rfl ?_
      obtain ⟨v13, e14, hf⟩ := zo_b_s hf
      refine zr_iald rfl e14 ?_
      refine zq_wg 3 (pc' := 26) (lv' := [some (.ref y1), some (.int y2), some (.int v13), some (.int y4)]) (st' := [.int y2, .int v13]) (h' := h5) rfl ?_
      refine zr_if (v13 = y2) 29 31 (st' := []) rfl rfl (fun b15 => ?_) (fun b15 => ?_)
      · have hf := zo_t hf b15
        refine zq_wg 1 (pc' := 30) (lv' := [some (.ref y1), some (.int y2), some (.int v13), some (.int y4)]) (st' := [.int (1 : Int32)]) (h' := h5) rfl ?_
        exact zr_ri rfl rfl rfl hf
      · have hf := zo_f hf b15
        refine zq_wg 2 (pc' := 4) (lv' := [some (.ref y1), some (.int y2), some (.int v13), some (.int (y4 + (1 : Int32)))]) (st' := []) (h' := h5) rfl ?_
        exact ih y1 y2 v13 (y4 + (1 : Int32)) h5 _ _ hf
set_option maxRecDepth 4000 in
theorem zm_isInRing_ok (sc : zX) (d : Nat) (hd : 0 ≤ d) {a0 : Nat} {a1 : Int32} {h : zH} {ro_ : Int32} {ho_ : zH} (hf : zm_isInRing sc a0 a1 h = some (ro_, ho_)) : zq_wm sc d 238 [.ref a0, .int a1] h (some (.int ro_), ho_) := by
  unfold zm_isInRing at hf
  show zq_wp sc d 238 0 [some (.ref a0), some (.int a1), none, none] [] h _
  refine zq_wg 4 (pc' := 4) (lv' := [some (.ref a0), some (.int a1), some (.int a1), some (.int (0 : Int32))]) (st' := []) (h' := h) rfl ?_
  refine zm_isInRing_l4_ok sc d zo_F a0 a1 a1 (0 : Int32) h _ _ hf
set_option maxRecDepth 4000 in
def zm_findSwaps_l4 (sc : zX) : Nat → Nat → Int32 → Int32 → zH → (Nat → Int32 → zH → Option (Unit × zH)) → Option (Unit × zH)
  | 0, _, _, _, _, _ => none
  | n + 1, y1, y2, y3, h4, k39 => zo_v h4 y1 10 (zm_posts sc y1 h4) (fun v6 h5 => if v6 ≤ y3 then (k39 y1 y2 h5) else (zo_b (zo_gR h5 10 y1 25) (fun v10 => zo_b (zq_rdI sc h5 v10 ((4 : Int32) + y3)) (fun v12 => zo_l (fun (x14 : Nat) (x15 : Int32) (x16 : Int32) (x17 : Int32) (h18 : zH) => zm_findSwaps_l4 sc n x14 (x16 ||| x17) (x15 + (1 : Int32)) h18 k39) (fun j31_18 => if v12 < 0 then (j31_18 y1 y3 y2 (0 : Int32) h5) else (j31_18 y1 y3 y2 ((1 : Int32) <<< (y3 &&& 31)) h5))))))
set_option maxRecDepth 4000 in
def zm_findSwaps_l41 (sc : zX) : Nat → Nat → Int32 → Int32 → zH → (Nat → Int32 → zH → Option (Unit × zH)) → Option (Unit × zH)
  | 0, _, _, _, _, _ => none
  | n + 1, y23, y24, y25, h26, k60 => if (6 : Int32) ≤ y25 then (k60 y23 y24 h26) else (zo_b (zo_gR h26 10 y23 38) (fun v28 => zo_b (zq_wrX 1 h26 v28 y25 (-1 : Int32)) (fun h30 => zm_findSwaps_l41 sc n y23 y24 (y25 + (1 : Int32)) h30 k60)))
set_option maxRecDepth 4000 in
def zm_findSwaps_l73 (sc : zX) : Nat → Nat → Int32 → Int32 → Int32 → zH → (Nat → Int32 → Int32 → zH → Option (Unit × zH)) → Option (Unit × zH)
  | 0, _, _, _, _, _, _ => none
  | n + 1, y43, y44, y45, y46, h47, k127 => zo_v h47 y43 10 (zm_men sc y43 h47) (fun v49 h48 => if v49 ≤ y46 then (k127 y43 y44 y45 h48) else (zo_b (zo_gR h48 10 y43 39) (fun v53 => zo_b (zq_rdI sc h48 v53 y46) (fun v55 => zo_l (fun (x57 : Nat) (x58 : Int32) (x59 : Int32) (x60 : Int32) (h61 : zH) => zm_findSwaps_l73 sc n x57 x58 x59 (x60 + (1 : Int32)) h61 k127) (fun j121_61 => if v55 < 0 then (j121_61 y43 y44 y45 y46 h48) else (zo_v h48 y43 10 (zm_isInRing sc y43 y46 h48) (fun v64 h63 => if v64 = 0 then (j121_61 y43 y44 y45 y46 h63) else (zo_b (zo_gR h63 10 y43 38) (fun v68 => zo_b (zo_gR h63 10 y43 39) (fun v70 => zo_b (zq_rdI sc h63 v70 y46) (fun v72 => zo_b (zq_wrX 1 h63 v68 y46 v72) (fun h74 => zo_b (zo_gR h74 10 y43 39) (fun v76 => zo_b (zq_rdI sc h74 v76 y46) (fun v78 => j121_61 y43 y44 (y45 ||| ((1 : Int32) <<< (v78 &&& 31))) y46 h74))))))))))))))
set_option maxRecDepth 4000 in
def zm_findSwaps_l60 (sc : zX) : Nat → Nat → Int32 → zH → Option (Unit × zH)
  | 0, _, _, _ => none
  | n + 1, y35, y36, h37 => if y36 ≤ 0 then (some ((), h37)) else (zo_v h37 y35 10 (zm_findLooks sc y35 y36 h37) (fun w40 h39 => zm_findSwaps_l73 sc zo_F y35 y36 (0 : Int32) (0 : Int32) h39 (fun (x80 : Nat) (x81 : Int32) (x82 : Int32) (h83 : zH) => zm_findSwaps_l60 sc n x80 (x81 &&& (x82 ^^^ (-1 : Int32))) h83 )))
set_option maxRecDepth 4000 in
def zm_findSwaps (sc : zX) (a0 : Nat) (h : zH) : Option (Unit × zH) := zm_findSwaps_l4 sc zo_F a0 (0 : Int32) (0 : Int32) h (fun (x20 : Nat) (x21 : Int32) (h22 : zH) => zm_findSwaps_l41 sc zo_F x20 x21 (0 : Int32) h22 (fun (x32 : Nat) (x33 : Int32) (h34 : zH) => zm_findSwaps_l60 sc zo_F x32 x33 h34 ))
set_option maxRecDepth 4000 in
theorem zm_findSwaps_l4_ok (sc : zX) (d : Nat) (hd : 3 ≤ d) : ∀ (n : Nat) (y1 : Nat) (y2 : Int32) (y3 : Int32) (h4 : zH) (k39 : Nat → Int32 → zH → Option (Unit × zH)) (ro_ : Unit) (ho_ : zH), (∀ (z0 : Nat) (z1 : Int32) (hz : zH), k39 z0 z1 hz = some (ro_, ho_) → zq_wp sc (d + 1) 235 39 [some (.ref z0), some (.int z1), none, none] [] hz (none, ho_)) → zm_findSwaps_l4 sc n y1 y2 y3 h4 k39 = some (ro_, ho_) → zq_wp sc (d + 1) 235 4 [some (.ref y1), some (.int y2), some (.int y3), none] [] h4 (none, ho_) := by
  intro n
  induction n with
  | zero => intro y1 y2 y3 h4 k39 ro_ ho_ hk39 hf; cases hf
  | succ n ih =>
    intro y1 y2 y3 h4 k39 ro_ ho_ hk39 hf
    refine zq_wg 2 (pc' := 6) (lv' := [some (.ref y1), some (.int y2), some (.int y3), none]) (st' := [.ref y1, .int y3]) (h' := h4) rfl ?_
    obtain ⟨e8, v6, h5, e7, hf⟩ := zo_v_s hf
    refine zr_cv zq_m151 [] [.int y3] rfl rfl rfl rfl rfl (Nat.le_of_ble_eq_true rfl) (Nat.le_of_ble_eq_true rfl) e8 (zm_posts_ok sc d (by omega) e7) ?_
    refine zq_wg 0 (pc' := 9) (lv' := [some (.ref y1), some (.int y2), some (.int y3), none]) (st' := [.int v6, .int y3]) (h' := h5) rfl ?_
    refine zr_if (v6 ≤ y3) 39 12 (st' := []) rfl rfl (fun b9 => ?_) (fun b9 => ?_)
    · have hf := zo_t hf b9
      refine zq_fg [some (.ref y1), some (.int y2), none, none] (zq_lvle_s (zq_lvle_s (zq_lvle_n (zq_lvle_s zq_lvle_nil)))) ?_
      exact hk39 y1 y2 h5 hf
    · have hf := zo_f hf b9
      refine zq_wg 2 (pc' := 14) (lv' := [some (.ref y1), some (.int y2), some (.int y3), none]) (st' := [.ref y1, .int y2]) (h' := h5) rfl ?_
      obtain ⟨v10, e11, hf⟩ := zo_b_s hf
      refine zr_gR rfl rfl (by decide) rfl e11 ?_
      refine zq_wg 3 (pc' := 20) (lv' := [some (.ref y1), some (.int y2), some (.int y3), none]) (st' := [.int ((4 : Int32) + y3), .ref v10, .int y2]) (h' := h5) rfl ?_
      obtain ⟨v12, e13, hf⟩ := zo_b_s hf
      refine zr_iald rfl e13 ?_
      obtain ⟨j31_18, hjj31_18, hf⟩ := zo_lj hf
      have kj31_18 : ∀ (x14 : Nat) (x15 : Int32) (x16 : Int32) (x17 : Int32) (h18 : zH), j31_18 x14 x15 x16 x17 h18 = some (ro_, ho_) → zq_wp sc (d + 1) 235 31 [some (.ref x14), none, some (.int x15), none] [.int x17, .int x16] h18 (none, ho_) := by
        intro x14 x15 x16 x17 h18 hf
        rw [hjj31_18] at hf
        refine zq_wg 4 (pc' := 4) (lv' := [some (.ref x14), some (.int (x16 ||| x17)), some (.int (x15 + (1 : Int32))), none]) (st' := []) (h' := h18) rfl ?_
        exact ih x14 (x16 ||| x17) (x15 + (1 : Int32)) h18 _ _ _ hk39 hf
      refine zr_if (v12 < 0) 30 24 (st' := [.int y2]) rfl rfl (fun b19 => ?_) (fun b19 => ?_)
      · have hf := zo_t hf b19
        refine zq_wg 1 (pc' := 31) (lv' := [some (.ref y1), some (.int y2), some (.int y3), none]) (st' := [.int (0 : Int32), .int y2]) (h' := h5) rfl ?_
        refine zq_fg [some (.ref y1), none, some (.int y3), none] (zq_lvle_s (zq_lvle_n (zq_lvle_s (zq_lvle_s zq_lvle_nil)))) ?_
        exact kj31_18 y1 y3 y2 (0 : Int32) h5 hf
      · have hf := zo_f hf b19
        refine zq_wg 4 (pc' := 31) (lv' := [some (.ref y1), some (.int y2), some (.int y3), none]) (st' := [.int ((1 : Int32) <<< (y3 &&& 31)), .int y2]) (h' := h5) rfl ?_
        refine zq_fg [some (.ref y1), none, some (.int y3), none] (zq_lvle_s (zq_lvle_n (zq_lvle_s (zq_lvle_s zq_lvle_nil)))) ?_
        exact kj31_18 y1 y3 y2 ((1 : Int32) <<< (y3 &&& 31)) h5 hf
set_option maxRecDepth 4000 in
theorem zm_findSwaps_l41_ok (sc : zX) (d : Nat) (hd : 3 ≤ d) : ∀ (n : Nat) (y23 : Nat) (y24 : Int32) (y25 : Int32) (h26 : zH) (k60 : Nat → Int32 → zH → Option (Unit × zH)) (ro_ : Unit) (ho_ : zH), (∀ (z0 : Nat) (z1 : Int32) (hz : zH), k60 z0 z1 hz = some (ro_, ho_) → zq_wp sc (d + 1) 235 60 [some (.ref z0), some (.int z1), none, none] [] hz (none, ho_)) → zm_findSwaps_l41 sc n y23 y24 y25 h26 k60 = some (ro_, ho_) → zq_wp sc (d + 1) 235 41 [some (.ref y23), some (.int y24), some (.int y25), none] [] h26 (none, ho_) := by
  intro n
  induction n with
  | zero => intro y23 y24 y25 h26 k60 ro_ ho_ hk60 hf; cases hf
  | succ n ih =>
    intro y23 y24 y25 h26 k60 ro_ ho_ hk60 hf
    refine zq_wg 2 (pc' := 44) (lv' := [some (.ref y23), some (.int y24), some (.int y25), none]) (st' := [.int (6 : Int32), .int y25]) (h' := h26) rfl ?_
    refine zr_if ((6 : Int32) ≤ y25) 60 47 (st' := []) rfl rfl (fun b27 => ?_) (fun b27 => ?_)
    · have hf := zo_t hf b27
      refine zq_fg [some (.ref y23), some (.int y24), none, none] (zq_lvle_s (zq_lvle_s (zq_lvle_n (zq_lvle_s zq_lvle_nil)))) ?_
      exact hk60 y23 y24 h26 hf
    · have hf := zo_f hf b27
      refine zq_wg 1 (pc' := 48) (lv' := [some (.ref y23), some (.int y24), some (.int y25), none]) (st' := [.ref y23]) (h' := h26) rfl ?_
      obtain ⟨v28, e29, hf⟩ := zo_b_s hf
      refine zr_gR rfl rfl (by decide) rfl e29 ?_
      refine zq_wg 2 (pc' := 53) (lv' := [some (.ref y23), some (.int y24), some (.int y25), none]) (st' := [.int (-1 : Int32), .int y25, .ref v28]) (h' := h26) rfl ?_
      obtain ⟨h30, e31, hf⟩ := zo_b_s hf
      refine zr_iast rfl e31 ?_
      refine zq_wg 2 (pc' := 41) (lv' := [some (.ref y23), some (.int y24), some (.int (y25 + (1 : Int32))), none]) (st' := []) (h' := h30) rfl ?_
      exact ih y23 y24 (y25 + (1 : Int32)) h30 _ _ _ hk60 hf
set_option maxRecDepth 4000 in
theorem zm_findSwaps_l73_ok (sc : zX) (d : Nat) (hd : 3 ≤ d) : ∀ (n : Nat) (y43 : Nat) (y44 : Int32) (y45 : Int32) (y46 : Int32) (h47 : zH) (k127 : Nat → Int32 → Int32 → zH → Option (Unit × zH)) (ro_ : Unit) (ho_ : zH), (∀ (z0 : Nat) (z1 : Int32) (z2 : Int32) (hz : zH), k127 z0 z1 z2 hz = some (ro_, ho_) → zq_wp sc (d + 1) 235 127 [some (.ref z0), some (.int z1), some (.int z2), none] [] hz (none, ho_)) → zm_findSwaps_l73 sc n y43 y44 y45 y46 h47 k127 = some (ro_, ho_) → zq_wp sc (d + 1) 235 73 [some (.ref y43), some (.int y44), some (.int y45), some (.int y46)] [] h47 (none, ho_) := by
  intro n
  induction n with
  | zero => intro y43 y44 y45 y46 h47 k127 ro_ ho_ hk127 hf; cases hf
  | succ n ih =>
    intro y43 y44 y45 y46 h47 k127 ro_ ho_ hk127 hf
    refine zq_wg 2 (pc' := 75) (lv' := [some (.ref y43), some (.int y44), some (.int y45), some (.int y46)]) (st' := [.ref y43, .int y46]) (h' := h47) rfl ?_
    obtain ⟨e51, v49, h48, e50, hf⟩ := zo_v_s hf
    refine zr_cv zq_m152 [] [.int y46] rfl rfl rfl rfl rfl (Nat.le_of_ble_eq_true rfl) (Nat.le_of_ble_eq_true rfl) e51 (zm_men_ok sc d (by omega) e50) ?_
    refine zq_wg 0 (pc' := 78) (lv' := [some (.ref y43), some (.int y44), some (.int y45), some (.int y46)]) (st' := [.int v49, .int y46]) (h' := h48) rfl ?_
    refine zr_if (v49 ≤ y46) 127 81 (st' := []) rfl rfl (fun b52 => ?_) (fun b52 => ?_)
    · have hf := zo_t hf b52
      refine zq_fg [some (.ref y43), some (.int y44), some (.int y45), none] (zq_lvle_s (zq_lvle_s (zq_lvle_s (zq_lvle_n zq_lvle_nil)))) ?_
      exact hk127 y43 y44 y45 h48 hf
    · have hf := zo_f hf b52
      refine zq_wg 1 (pc' := 82) (lv' := [some (.ref y43), some (.int y44), some (.int y45), some (.int y46)]) (st' := [.ref y43]) (h' := h48) rfl ?_
      obtain ⟨v53, e54, hf⟩ := zo_b_s hf
      refine zr_gR rfl rfl (by decide) rfl e54 ?_
      refine zq_wg 1 (pc' := 86) (lv' := [some (.ref y43), some (.int y44), some (.int y45), some (.int y46)]) (st' := [.int y46, .ref v53]) (h' := h48) rfl ?_
      obtain ⟨v55, e56, hf⟩ := zo_b_s hf
      refine zr_iald rfl e56 ?_
      obtain ⟨j121_61, hjj121_61, hf⟩ := zo_lj hf
      have kj121_61 : ∀ (x57 : Nat) (x58 : Int32) (x59 : Int32) (x60 : Int32) (h61 : zH), j121_61 x57 x58 x59 x60 h61 = some (ro_, ho_) → zq_wp sc (d + 1) 235 121 [some (.ref x57), some (.int x58), some (.int x59), some (.int x60)] [] h61 (none, ho_) := by
        intro x57 x58 x59 x60 h61 hf
        rw [hjj121_61] at hf
        refine zq_wg 2 (pc' := 73) (lv' := [some (.ref x57), some (.int x58), some (.int x59), some (.int (x60 + (1 : Int32)))]) (st' := []) (h' := h61) rfl ?_
        exact ih x57 x58 x59 (x60 + (1 : Int32)) h61 _ _ _ hk127 hf
      refine zr_if (v55 < 0) 121 90 (st' := []) rfl rfl (fun b62 => ?_) (fun b62 => ?_)
      · have hf := zo_t hf b62
        exact kj121_61 y43 y44 y45 y46 h48 hf
      · have hf := zo_f hf b62
        refine zq_wg 2 (pc' := 92) (lv' := [some (.ref y43), some (.int y44), some (.int y45), some (.int y46)]) (st' := [.int y46, .ref y43]) (h' := h48) rfl ?_
        obtain ⟨e66, v64, h63, e65, hf⟩ := zo_v_s hf
        refine zr_cv zq_m238 [.int y46] [] rfl rfl rfl rfl rfl (Nat.le_of_ble_eq_true rfl) (Nat.le_of_ble_eq_true rfl) e66 (zm_isInRing_ok sc d (by omega) e65) ?_
        refine zq_wg 0 (pc' := 95) (lv' := [some (.ref y43), some (.int y44), some (.int y45), some (.int y46)]) (st' := [.int v64]) (h' := h63) rfl ?_
        refine zr_if (v64 = 0) 121 98 (st' := []) rfl rfl (fun b67 => ?_) (fun b67 => ?_)
        · have hf := zo_t hf b67
          exact kj121_61 y43 y44 y45 y46 h63 hf
        · have hf := zo_f hf b67
          refine zq_wg 1 (pc' := 99) (lv' := [some (.ref y43), some (.int y44), some (.int y45), some (.int y46)]) (st' := [.ref y43]) (h' := h63) rfl ?_
          obtain ⟨v68, e69, hf⟩ := zo_b_s hf
          refine zr_gR rfl rfl (by decide) rfl e69 ?_
          refine zq_wg 2 (pc' := 104) (lv' := [some (.ref y43), some (.int y44), some (.int y45), some (.int y46)]) (st' := [.ref y43, .int y46, .ref v68]) (h' := h63) rfl ?_
          obtain ⟨v70, e71, hf⟩ := zo_b_s hf
          refine zr_gR rfl rfl (by decide) rfl e71 ?_
          refine zq_wg 1 (pc' := 108) (lv' := [some (.ref y43), some (.int y44), some (.int y45), some (.int y46)]) (st' := [.int y46, .ref v70, .int y46, .ref v68]) (h' := h63) rfl ?_
          obtain ⟨v72, e73, hf⟩ := zo_b_s hf
          refine zr_iald rfl e73 ?_
          obtain ⟨h74, e75, hf⟩ := zo_b_s hf
          refine zr_iast rfl e75 ?_
          refine zq_wg 3 (pc' := 113) (lv' := [some (.ref y43), some (.int y44), some (.int y45), some (.int y46)]) (st' := [.ref y43, .int (1 : Int32), .int y45]) (h' := h74) rfl ?_
          obtain ⟨v76, e77, hf⟩ := zo_b_s hf
          refine zr_gR rfl rfl (by decide) rfl e77 ?_
          refine zq_wg 1 (pc' := 117) (lv' := [some (.ref y43), some (.int y44), some (.int y45), some (.int y46)]) (st' := [.int y46, .ref v76, .int (1 : Int32), .int y45]) (h' := h74) rfl ?_
          obtain ⟨v78, e79, hf⟩ := zo_b_s hf
          refine zr_iald rfl e79 ?_
          refine zq_wg 3 (pc' := 121) (lv' := [some (.ref y43), some (.int y44), some (.int (y45 ||| ((1 : Int32) <<< (v78 &&& 31)))), some (.int y46)]) (st' := []) (h' := h74) rfl ?_
          exact kj121_61 y43 y44 (y45 ||| ((1 : Int32) <<< (v78 &&& 31))) y46 h74 hf
set_option maxRecDepth 4000 in
theorem zm_findSwaps_l60_ok (sc : zX) (d : Nat) (hd : 3 ≤ d) : ∀ (n : Nat) (y35 : Nat) (y36 : Int32) (h37 : zH) (ro_ : Unit) (ho_ : zH),  zm_findSwaps_l60 sc n y35 y36 h37  = some (ro_, ho_) → zq_wp sc (d + 1) 235 60 [some (.ref y35), some (.int y36), none, none] [] h37 (none, ho_) := by
  intro n
  induction n with
  | zero => intro y35 y36 h37 ro_ ho_ hf; cases hf
  | succ n ih =>
    intro y35 y36 h37 ro_ ho_ hf
    refine zq_wg 1 (pc' := 61) (lv' := [some (.ref y35), some (.int y36), none, none]) (st' := [.int y36]) (h' := h37) rfl ?_
    refine zr_if (y36 ≤ 0) 136 64 (st' := []) rfl rfl (fun b38 => ?_) (fun b38 => ?_)
    · have hf := zo_t hf b38
      exact zr_rv rfl rfl hf
    · have hf := zo_f hf b38
      refine zq_wg 2 (pc' := 66) (lv' := [some (.ref y35), some (.int y36), none, none]) (st' := [.int y36, .ref y35]) (h' := h37) rfl ?_
      obtain ⟨e42, w40, h39, e41, hf⟩ := zo_v_s hf
      refine zr_cv zq_m236 [.int y36] [] rfl rfl rfl rfl rfl (Nat.le_of_ble_eq_true rfl) (Nat.le_of_ble_eq_true rfl) e42 (zm_findLooks_ok sc d (by omega) e41) ?_
      refine zq_wg 0 (pc' := 69) (lv' := [some (.ref y35), some (.int y36), none, none]) (st' := []) (h' := h39) rfl ?_
      refine zq_wg 4 (pc' := 73) (lv' := [some (.ref y35), some (.int y36), some (.int (0 : Int32)), some (.int (0 : Int32))]) (st' := []) (h' := h39) rfl ?_
      refine zm_findSwaps_l73_ok sc d hd zo_F y35 y36 (0 : Int32) (0 : Int32) h39 _ _ _ ?_ hf
      · intro x80 x81 x82 h83 hf
        refine zq_wg 7 (pc' := 60) (lv' := [some (.ref x80), some (.int (x81 &&& (x82 ^^^ (-1 : Int32)))), some (.int x82), none]) (st' := []) (h' := h83) rfl ?_
        refine zq_fg [some (.ref x80), some (.int (x81 &&& (x82 ^^^ (-1 : Int32)))), none, none] (zq_lvle_s (zq_lvle_s (zq_lvle_n (zq_lvle_s zq_lvle_nil)))) ?_
        exact ih x80 (x81 &&& (x82 ^^^ (-1 : Int32))) h83 _ _ hf
set_option maxRecDepth 4000 in
theorem zm_findSwaps_ok (sc : zX) (d : Nat) (hd : 4 ≤ d) {a0 : Nat} {h : zH} {ro_ : Unit} {ho_ : zH} (hf : zm_findSwaps sc a0 h = some (ro_, ho_)) : zq_wm sc d 235 [.ref a0] h (none, ho_) := by
  unfold zm_findSwaps at hf
  obtain ⟨d, rfl⟩ : ∃ d', d = d' + 1 := ⟨d - 1, by omega⟩
  have hd : 3 ≤ d := by omega
  show zq_wp sc (d + 1) 235 0 [some (.ref a0), none, none, none] [] h _
  refine zq_wg 4 (pc' := 4) (lv' := [some (.ref a0), some (.int (0 : Int32)), some (.int (0 : Int32)), none]) (st' := []) (h' := h) rfl ?_
  refine zm_findSwaps_l4_ok sc d hd zo_F a0 (0 : Int32) (0 : Int32) h _ _ _ ?_ hf
  · intro x20 x21 h22 hf
    refine zq_wg 2 (pc' := 41) (lv' := [some (.ref x20), some (.int x21), some (.int (0 : Int32)), none]) (st' := []) (h' := h22) rfl ?_
    refine zm_findSwaps_l41_ok sc d hd zo_F x20 x21 (0 : Int32) h22 _ _ _ ?_ hf
    · intro x32 x33 h34 hf
      refine zm_findSwaps_l60_ok sc d hd zo_F x32 x33 h34 _ _ hf
set_option maxRecDepth 4000 in
def zm_swaps (sc : zX) (a0 : Nat) (a1 : Int32) (h : zH) : Option (Int32 × zH) := zo_b (zo_pI h 10 a0 0 (0 : Int32)) (fun h1 => zo_v h1 a0 10 (zm_isMan sc a0 a1 h1) (fun v4 h3 => if v4 = 0 then (some ((-2 : Int32), h3)) else (zo_v h3 a0 10 (zm_findSwaps sc a0 h3) (fun w9 h8 => zo_b (zo_gR h8 10 a0 38) (fun v12 => zo_b (zq_rdI sc h8 v12 a1) (fun v14 => some (v14, h8)))))))
set_option maxRecDepth 4000 in
theorem zm_swaps_ok (sc : zX) (d : Nat) (hd : 5 ≤ d) {a0 : Nat} {a1 : Int32} {h : zH} {ro_ : Int32} {ho_ : zH} (hf : zm_swaps sc a0 a1 h = some (ro_, ho_)) : zq_wm sc d 234 [.ref a0, .int a1] h (some (.int ro_), ho_) := by
  unfold zm_swaps at hf
  obtain ⟨d, rfl⟩ : ∃ d', d = d' + 1 := ⟨d - 1, by omega⟩
  have hd : 4 ≤ d := by omega
  show zq_wp sc (d + 1) 234 0 [some (.ref a0), some (.int a1)] [] h _
  refine zq_wg 2 (pc' := 2) (lv' := [some (.ref a0), some (.int a1)]) (st' := [.int (0 : Int32), .ref a0]) (h' := h) rfl ?_
  obtain ⟨h1, e2, hf⟩ := zo_b_s hf
  refine zr_pI rfl rfl (by decide) rfl rfl e2 ?_
  refine zq_wg 2 (pc' := 7) (lv' := [some (.ref a0), some (.int a1)]) (st' := [.int a1, .ref a0]) (h' := h1) rfl ?_
  obtain ⟨e6, v4, h3, e5, hf⟩ := zo_v_s hf
  refine zr_cv zq_m198 [.int a1] [] rfl rfl rfl rfl rfl (Nat.le_of_ble_eq_true rfl) (Nat.le_of_ble_eq_true rfl) e6 (zm_isMan_ok sc d (by omega) e5) ?_
  refine zq_wg 0 (pc' := 10) (lv' := [some (.ref a0), some (.int a1)]) (st' := [.int v4]) (h' := h3) rfl ?_
  refine zr_if (v4 = 0) 13 16 (st' := []) rfl rfl (fun b7 => ?_) (fun b7 => ?_)
  · have hf := zo_t hf b7
    refine zq_wg 1 (pc' := 15) (lv' := [some (.ref a0), some (.int a1)]) (st' := [.int (-2 : Int32)]) (h' := h3) rfl ?_
    exact zr_ri rfl rfl rfl hf
  · have hf := zo_f hf b7
    refine zq_wg 1 (pc' := 17) (lv' := [some (.ref a0), some (.int a1)]) (st' := [.ref a0]) (h' := h3) rfl ?_
    obtain ⟨e11, w9, h8, e10, hf⟩ := zo_v_s hf
    refine zr_cv zq_m235 [] [] rfl rfl rfl rfl rfl (Nat.le_of_ble_eq_true rfl) (Nat.le_of_ble_eq_true rfl) e11 (zm_findSwaps_ok sc d (by omega) e10) ?_
    refine zq_wg 0 (pc' := 20) (lv' := [some (.ref a0), some (.int a1)]) (st' := []) (h' := h8) rfl ?_
    refine zq_wg 1 (pc' := 21) (lv' := [some (.ref a0), some (.int a1)]) (st' := [.ref a0]) (h' := h8) rfl ?_
    obtain ⟨v12, e13, hf⟩ := zo_b_s hf
    refine zr_gR rfl rfl (by decide) rfl e13 ?_
    refine zq_wg 1 (pc' := 25) (lv' := [some (.ref a0), some (.int a1)]) (st' := [.int a1, .ref v12]) (h' := h8) rfl ?_
    obtain ⟨v14, e15, hf⟩ := zo_b_s hf
    refine zr_iald rfl e15 ?_
    exact zr_ri rfl rfl rfl hf
set_option maxRecDepth 4000 in
def zm_leave_l13 (sc : zX) : Nat → Nat → Int32 → Int32 → zH → Option (Int32 × zH)
  | 0, _, _, _, _ => none
  | n + 1, y7, y8, y9, h10 => zo_v h10 y7 10 (zm_men sc y7 h10) (fun v12 h11 => if v12 ≤ y9 then (some (y8, h11)) else (zo_b (zo_gR h11 10 y7 38) (fun v16 => zo_b (zq_rdI sc h11 v16 y9) (fun v18 => zo_v h11 y7 10 (zm_postHeldBy sc y7 (0 : Int32) y9 h11) (fun v21 h20 => zo_l (fun (x24 : Nat) (x25 : Int32) (x26 : Int32) (x27 : Int32) (h28 : zH) => zm_leave_l13 sc n x24 (x26 ||| x27) (x25 + (1 : Int32)) h28 ) (fun j44_28 => if v18 = v21 then (j44_28 y7 y9 y8 (0 : Int32) h20) else (j44_28 y7 y9 y8 ((1 : Int32) <<< (y9 &&& 31)) h20)))))))
set_option maxRecDepth 4000 in
def zm_leave (sc : zX) (a0 : Nat) (h : zH) : Option (Int32 × zH) := zo_b (zo_pI h 10 a0 0 (0 : Int32)) (fun h1 => zo_v h1 a0 10 (zm_findSwaps sc a0 h1) (fun w4 h3 => zm_leave_l13 sc zo_F a0 (0 : Int32) (0 : Int32) h3 ))
set_option maxRecDepth 4000 in
theorem zm_leave_l13_ok (sc : zX) (d : Nat) (hd : 4 ≤ d) : ∀ (n : Nat) (y7 : Nat) (y8 : Int32) (y9 : Int32) (h10 : zH) (ro_ : Int32) (ho_ : zH),  zm_leave_l13 sc n y7 y8 y9 h10  = some (ro_, ho_) → zq_wp sc (d + 1) 239 13 [some (.ref y7), some (.int y8), some (.int y9)] [] h10 (some (.int ro_), ho_) := by
  intro n
  induction n with
  | zero => intro y7 y8 y9 h10 ro_ ho_ hf; cases hf
  | succ n ih =>
    intro y7 y8 y9 h10 ro_ ho_ hf
    refine zq_wg 2 (pc' := 15) (lv' := [some (.ref y7), some (.int y8), some (.int y9)]) (st' := [.ref y7, .int y9]) (h' := h10) rfl ?_
    obtain ⟨e14, v12, h11, e13, hf⟩ := zo_v_s hf
    refine zr_cv zq_m152 [] [.int y9] rfl rfl rfl rfl rfl (Nat.le_of_ble_eq_true rfl) (Nat.le_of_ble_eq_true rfl) e14 (zm_men_ok sc d (by omega) e13) ?_
    refine zq_wg 0 (pc' := 18) (lv' := [some (.ref y7), some (.int y8), some (.int y9)]) (st' := [.int v12, .int y9]) (h' := h11) rfl ?_
    refine zr_if (v12 ≤ y9) 52 21 (st' := []) rfl rfl (fun b15 => ?_) (fun b15 => ?_)
    · have hf := zo_t hf b15
      refine zq_wg 1 (pc' := 53) (lv' := [some (.ref y7), some (.int y8), some (.int y9)]) (st' := [.int y8]) (h' := h11) rfl ?_
      exact zr_ri rfl rfl rfl hf
    · have hf := zo_f hf b15
      refine zq_wg 2 (pc' := 23) (lv' := [some (.ref y7), some (.int y8), some (.int y9)]) (st' := [.ref y7, .int y8]) (h' := h11) rfl ?_
      obtain ⟨v16, e17, hf⟩ := zo_b_s hf
      refine zr_gR rfl rfl (by decide) rfl e17 ?_
      refine zq_wg 1 (pc' := 27) (lv' := [some (.ref y7), some (.int y8), some (.int y9)]) (st' := [.int y9, .ref v16, .int y8]) (h' := h11) rfl ?_
      obtain ⟨v18, e19, hf⟩ := zo_b_s hf
      refine zr_iald rfl e19 ?_
      refine zq_wg 3 (pc' := 31) (lv' := [some (.ref y7), some (.int y8), some (.int y9)]) (st' := [.int y9, .int (0 : Int32), .ref y7, .int v18, .int y8]) (h' := h11) rfl ?_
      obtain ⟨e23, v21, h20, e22, hf⟩ := zo_v_s hf
      refine zr_cv zq_m199 [.int (0 : Int32), .int y9] [.int v18, .int y8] rfl rfl rfl rfl rfl (Nat.le_of_ble_eq_true rfl) (Nat.le_of_ble_eq_true rfl) e23 (zm_postHeldBy_ok sc d (by omega) e22) ?_
      refine zq_wg 0 (pc' := 34) (lv' := [some (.ref y7), some (.int y8), some (.int y9)]) (st' := [.int v21, .int v18, .int y8]) (h' := h20) rfl ?_
      obtain ⟨j44_28, hjj44_28, hf⟩ := zo_lj hf
      have kj44_28 : ∀ (x24 : Nat) (x25 : Int32) (x26 : Int32) (x27 : Int32) (h28 : zH), j44_28 x24 x25 x26 x27 h28 = some (ro_, ho_) → zq_wp sc (d + 1) 239 44 [some (.ref x24), none, some (.int x25)] [.int x27, .int x26] h28 (some (.int ro_), ho_) := by
        intro x24 x25 x26 x27 h28 hf
        rw [hjj44_28] at hf
        refine zq_wg 4 (pc' := 13) (lv' := [some (.ref x24), some (.int (x26 ||| x27)), some (.int (x25 + (1 : Int32)))]) (st' := []) (h' := h28) rfl ?_
        exact ih x24 (x26 ||| x27) (x25 + (1 : Int32)) h28 _ _ hf
      refine zr_if (v18 = v21) 43 37 (st' := [.int y8]) rfl rfl (fun b29 => ?_) (fun b29 => ?_)
      · have hf := zo_t hf b29
        refine zq_wg 1 (pc' := 44) (lv' := [some (.ref y7), some (.int y8), some (.int y9)]) (st' := [.int (0 : Int32), .int y8]) (h' := h20) rfl ?_
        refine zq_fg [some (.ref y7), none, some (.int y9)] (zq_lvle_s (zq_lvle_n (zq_lvle_s zq_lvle_nil))) ?_
        exact kj44_28 y7 y9 y8 (0 : Int32) h20 hf
      · have hf := zo_f hf b29
        refine zq_wg 4 (pc' := 44) (lv' := [some (.ref y7), some (.int y8), some (.int y9)]) (st' := [.int ((1 : Int32) <<< (y9 &&& 31)), .int y8]) (h' := h20) rfl ?_
        refine zq_fg [some (.ref y7), none, some (.int y9)] (zq_lvle_s (zq_lvle_n (zq_lvle_s zq_lvle_nil))) ?_
        exact kj44_28 y7 y9 y8 ((1 : Int32) <<< (y9 &&& 31)) h20 hf
set_option maxRecDepth 4000 in
theorem zm_leave_ok (sc : zX) (d : Nat) (hd : 5 ≤ d) {a0 : Nat} {h : zH} {ro_ : Int32} {ho_ : zH} (hf : zm_leave sc a0 h = some (ro_, ho_)) : zq_wm sc d 239 [.ref a0] h (some (.int ro_), ho_) := by
  unfold zm_leave at hf
  obtain ⟨d, rfl⟩ : ∃ d', d = d' + 1 := ⟨d - 1, by omega⟩
  have hd : 4 ≤ d := by omega
  show zq_wp sc (d + 1) 239 0 [some (.ref a0), none, none] [] h _
  refine zq_wg 2 (pc' := 2) (lv' := [some (.ref a0), none, none]) (st' := [.int (0 : Int32), .ref a0]) (h' := h) rfl ?_
  obtain ⟨h1, e2, hf⟩ := zo_b_s hf
  refine zr_pI rfl rfl (by decide) rfl rfl e2 ?_
  refine zq_wg 1 (pc' := 6) (lv' := [some (.ref a0), none, none]) (st' := [.ref a0]) (h' := h1) rfl ?_
  obtain ⟨e6, w4, h3, e5, hf⟩ := zo_v_s hf
  refine zr_cv zq_m235 [] [] rfl rfl rfl rfl rfl (Nat.le_of_ble_eq_true rfl) (Nat.le_of_ble_eq_true rfl) e6 (zm_findSwaps_ok sc d (by omega) e5) ?_
  refine zq_wg 0 (pc' := 9) (lv' := [some (.ref a0), none, none]) (st' := []) (h' := h3) rfl ?_
  refine zq_wg 4 (pc' := 13) (lv' := [some (.ref a0), some (.int (0 : Int32)), some (.int (0 : Int32))]) (st' := []) (h' := h3) rfl ?_
  refine zm_leave_l13_ok sc d hd zo_F a0 (0 : Int32) (0 : Int32) h3 _ _ hf
set_option maxRecDepth 4000 in
def zm_arePooled_l16 (sc : zX) : Nat → Nat → Int32 → Int32 → Int32 → zH → Option (Int32 × zH)
  | 0, _, _, _, _, _ => none
  | n + 1, y8, y9, y10, y11, h12 => zo_v h12 y8 10 (zm_men sc y8 h12) (fun v14 h13 => if v14 ≤ y11 then (zo_rb y10 h13) else (if y10 = 0 then (zo_rb y10 h13) else (zo_l (fun (x19 : Nat) (x20 : Int32) (x21 : Int32) (x22 : Int32) (h23 : zH) => zm_arePooled_l16 sc n x19 x20 x22 (x21 + (1 : Int32)) h23 ) (fun j50_23 => zo_l (fun (x24 : Nat) (x25 : Int32) (x26 : Int32) (h27 : zH) => j50_23 x24 x25 x26 (1 : Int32) h27) (fun j45_27 => if ((y9 >>> (y11 &&& 31)) &&& (1 : Int32)) = 0 then (j45_27 y8 y9 y11 h13) else (zo_v h13 y8 10 (zm_postHeldBy sc y8 (0 : Int32) y11 h13) (fun v30 h29 => if v30 < 0 then (j50_23 y8 y9 y11 (0 : Int32) h29) else (j45_27 y8 y9 y11 h29))))))))
set_option maxRecDepth 4000 in
def zm_arePooled (sc : zX) (a0 : Nat) (a1 : Int32) (h : zH) : Option (Int32 × zH) := zo_v h a0 10 (zm_men sc a0 h) (fun v2 h1 => zo_c (zm_within sc a1 (1 : Int32) (((1 : Int32) <<< (v2 &&& 31)) - (1 : Int32)) h1) (fun v6 h5 => zm_arePooled_l16 sc zo_F a0 a1 v6 (0 : Int32) h5 ))
set_option maxRecDepth 4000 in
theorem zm_arePooled_l16_ok (sc : zX) (d : Nat) (hd : 1 ≤ d) : ∀ (n : Nat) (y8 : Nat) (y9 : Int32) (y10 : Int32) (y11 : Int32) (h12 : zH) (ro_ : Int32) (ho_ : zH),  zm_arePooled_l16 sc n y8 y9 y10 y11 h12  = some (ro_, ho_) → zq_wp sc (d + 1) 241 16 [some (.ref y8), some (.int y9), some (.int y10), some (.int y11)] [] h12 (some (.int ro_), ho_) := by
  intro n
  induction n with
  | zero => intro y8 y9 y10 y11 h12 ro_ ho_ hf; cases hf
  | succ n ih =>
    intro y8 y9 y10 y11 h12 ro_ ho_ hf
    refine zq_wg 2 (pc' := 18) (lv' := [some (.ref y8), some (.int y9), some (.int y10), some (.int y11)]) (st' := [.ref y8, .int y11]) (h' := h12) rfl ?_
    obtain ⟨e16, v14, h13, e15, hf⟩ := zo_v_s hf
    refine zr_cv zq_m152 [] [.int y11] rfl rfl rfl rfl rfl (Nat.le_of_ble_eq_true rfl) (Nat.le_of_ble_eq_true rfl) e16 (zm_men_ok sc d (by omega) e15) ?_
    refine zq_wg 0 (pc' := 21) (lv' := [some (.ref y8), some (.int y9), some (.int y10), some (.int y11)]) (st' := [.int v14, .int y11]) (h' := h13) rfl ?_
    refine zr_if (v14 ≤ y11) 57 24 (st' := []) rfl rfl (fun b17 => ?_) (fun b17 => ?_)
    · have hf := zo_t hf b17
      refine zq_wg 1 (pc' := 58) (lv' := [some (.ref y8), some (.int y9), some (.int y10), some (.int y11)]) (st' := [.int y10]) (h' := h13) rfl ?_
      exact zr_rb rfl rfl hf
    · have hf := zo_f hf b17
      refine zq_wg 1 (pc' := 25) (lv' := [some (.ref y8), some (.int y9), some (.int y10), some (.int y11)]) (st' := [.int y10]) (h' := h13) rfl ?_
      refine zr_if (y10 = 0) 57 28 (st' := []) rfl rfl (fun b18 => ?_) (fun b18 => ?_)
      · have hf := zo_t hf b18
        refine zq_wg 1 (pc' := 58) (lv' := [some (.ref y8), some (.int y9), some (.int y10), some (.int y11)]) (st' := [.int y10]) (h' := h13) rfl ?_
        exact zr_rb rfl rfl hf
      · have hf := zo_f hf b18
        refine zq_wg 5 (pc' := 33) (lv' := [some (.ref y8), some (.int y9), some (.int y10), some (.int y11)]) (st' := [.int ((y9 >>> (y11 &&& 31)) &&& (1 : Int32))]) (h' := h13) rfl ?_
        obtain ⟨j50_23, hjj50_23, hf⟩ := zo_lj hf
        have kj50_23 : ∀ (x19 : Nat) (x20 : Int32) (x21 : Int32) (x22 : Int32) (h23 : zH), j50_23 x19 x20 x21 x22 h23 = some (ro_, ho_) → zq_wp sc (d + 1) 241 50 [some (.ref x19), some (.int x20), none, some (.int x21)] [.int x22] h23 (some (.int ro_), ho_) := by
          intro x19 x20 x21 x22 h23 hf
          rw [hjj50_23] at hf
          refine zq_wg 3 (pc' := 16) (lv' := [some (.ref x19), some (.int x20), some (.int x22), some (.int (x21 + (1 : Int32)))]) (st' := []) (h' := h23) rfl ?_
          exact ih x19 x20 x22 (x21 + (1 : Int32)) h23 _ _ hf
        obtain ⟨j45_27, hjj45_27, hf⟩ := zo_lj hf
        have kj45_27 : ∀ (x24 : Nat) (x25 : Int32) (x26 : Int32) (h27 : zH), j45_27 x24 x25 x26 h27 = some (ro_, ho_) → zq_wp sc (d + 1) 241 45 [some (.ref x24), some (.int x25), none, some (.int x26)] [] h27 (some (.int ro_), ho_) := by
          intro x24 x25 x26 h27 hf
          rw [hjj45_27] at hf
          refine zq_wg 2 (pc' := 50) (lv' := [some (.ref x24), some (.int x25), none, some (.int x26)]) (st' := [.int (1 : Int32)]) (h' := h27) rfl ?_
          exact kj50_23 x24 x25 x26 (1 : Int32) h27 hf
        refine zr_if (((y9 >>> (y11 &&& 31)) &&& (1 : Int32)) = 0) 45 36 (st' := []) rfl rfl (fun b28 => ?_) (fun b28 => ?_)
        · have hf := zo_t hf b28
          refine zq_fg [some (.ref y8), some (.int y9), none, some (.int y11)] (zq_lvle_s (zq_lvle_s (zq_lvle_n (zq_lvle_s zq_lvle_nil)))) ?_
          exact kj45_27 y8 y9 y11 h13 hf
        · have hf := zo_f hf b28
          refine zq_wg 3 (pc' := 39) (lv' := [some (.ref y8), some (.int y9), some (.int y10), some (.int y11)]) (st' := [.int y11, .int (0 : Int32), .ref y8]) (h' := h13) rfl ?_
          obtain ⟨e32, v30, h29, e31, hf⟩ := zo_v_s hf
          refine zr_cv zq_m199 [.int (0 : Int32), .int y11] [] rfl rfl rfl rfl rfl (Nat.le_of_ble_eq_true rfl) (Nat.le_of_ble_eq_true rfl) e32 (zm_postHeldBy_ok sc d (by omega) e31) ?_
          refine zq_wg 0 (pc' := 42) (lv' := [some (.ref y8), some (.int y9), some (.int y10), some (.int y11)]) (st' := [.int v30]) (h' := h29) rfl ?_
          refine zr_if (v30 < 0) 49 45 (st' := []) rfl rfl (fun b33 => ?_) (fun b33 => ?_)
          · have hf := zo_t hf b33
            refine zq_wg 1 (pc' := 50) (lv' := [some (.ref y8), some (.int y9), some (.int y10), some (.int y11)]) (st' := [.int (0 : Int32)]) (h' := h29) rfl ?_
            refine zq_fg [some (.ref y8), some (.int y9), none, some (.int y11)] (zq_lvle_s (zq_lvle_s (zq_lvle_n (zq_lvle_s zq_lvle_nil)))) ?_
            exact kj50_23 y8 y9 y11 (0 : Int32) h29 hf
          · have hf := zo_f hf b33
            refine zq_fg [some (.ref y8), some (.int y9), none, some (.int y11)] (zq_lvle_s (zq_lvle_s (zq_lvle_n (zq_lvle_s zq_lvle_nil)))) ?_
            exact kj45_27 y8 y9 y11 h29 hf
set_option maxRecDepth 4000 in
theorem zm_arePooled_ok (sc : zX) (d : Nat) (hd : 2 ≤ d) {a0 : Nat} {a1 : Int32} {h : zH} {ro_ : Int32} {ho_ : zH} (hf : zm_arePooled sc a0 a1 h = some (ro_, ho_)) : zq_wm sc d 241 [.ref a0, .int a1] h (some (.int ro_), ho_) := by
  unfold zm_arePooled at hf
  obtain ⟨d, rfl⟩ : ∃ d', d = d' + 1 := ⟨d - 1, by omega⟩
  have hd : 1 ≤ d := by omega
  show zq_wp sc (d + 1) 241 0 [some (.ref a0), some (.int a1), none, none] [] h _
  refine zq_wg 4 (pc' := 4) (lv' := [some (.ref a0), some (.int a1), none, none]) (st' := [.ref a0, .int (1 : Int32), .int (1 : Int32), .int a1]) (h' := h) rfl ?_
  obtain ⟨e4, v2, h1, e3, hf⟩ := zo_v_s hf
  refine zr_cv zq_m152 [] [.int (1 : Int32), .int (1 : Int32), .int a1] rfl rfl rfl rfl rfl (Nat.le_of_ble_eq_true rfl) (Nat.le_of_ble_eq_true rfl) e4 (zm_men_ok sc d (by omega) e3) ?_
  refine zq_wg 0 (pc' := 7) (lv' := [some (.ref a0), some (.int a1), none, none]) (st' := [.int v2, .int (1 : Int32), .int (1 : Int32), .int a1]) (h' := h1) rfl ?_
  refine zq_wg 3 (pc' := 10) (lv' := [some (.ref a0), some (.int a1), none, none]) (st' := [.int (((1 : Int32) <<< (v2 &&& 31)) - (1 : Int32)), .int (1 : Int32), .int a1]) (h' := h1) rfl ?_
  obtain ⟨v6, h5, e7, hf⟩ := zo_c_s hf
  refine zr_cs zq_m173 [.int a1, .int (1 : Int32), .int (((1 : Int32) <<< (v2 &&& 31)) - (1 : Int32))] [] rfl rfl (by decide) rfl rfl rfl (Nat.le_of_ble_eq_true rfl) (Nat.le_of_ble_eq_true rfl) (zm_within_ok sc d (by omega) e7) ?_
  refine zq_wg 0 (pc' := 13) (lv' := [some (.ref a0), some (.int a1), none, none]) (st' := [.int v6]) (h' := h5) rfl ?_
  refine zq_wg 3 (pc' := 16) (lv' := [some (.ref a0), some (.int a1), some (.int v6), some (.int (0 : Int32))]) (st' := []) (h' := h5) rfl ?_
  refine zm_arePooled_l16_ok sc d hd zo_F a0 a1 v6 (0 : Int32) h5 _ _ hf
set_option maxRecDepth 4000 in
def zm_pools_l28 (sc : zX) (rec : Nat → Int32 → Int32 → Int32 → zH → Option (Unit × zH)) : Nat → Nat → Int32 → Int32 → Int32 → Int32 → zH → (Nat → Int32 → Int32 → Int32 → Int32 → zH → Option (Unit × zH)) → Option (Unit × zH)
  | 0, _, _, _, _, _, _, _ => none
  | n + 1, y12, y13, y14, y15, y16, h17, k43 => if ((y13 >>> (y16 &&& 31)) &&& (1 : Int32)) = 0 then (zm_pools_l28 sc rec n y12 y13 y14 y15 (y16 + (1 : Int32)) h17 k43) else (k43 y12 y13 y14 y15 y16 h17)
set_option maxRecDepth 4000 in
def zm_pools_l46 (sc : zX) (rec : Nat → Int32 → Int32 → Int32 → zH → Option (Unit × zH)) : Nat → Nat → Int32 → Int32 → Int32 → Int32 → Int32 → zH → Option (Unit × zH)
  | 0, _, _, _, _, _, _, _ => none
  | n + 1, y25, y26, y27, y28, y29, y30, h31 => zo_v h31 y25 10 (zm_posts sc y25 h31) (fun v33 h32 => if v33 ≤ y30 then (some ((), h32)) else (zo_l (fun (x37 : Nat) (x38 : Int32) (x39 : Int32) (x40 : Int32) (x41 : Int32) (x42 : Int32) (h43 : zH) => zm_pools_l46 sc rec n x37 x38 x39 x40 x41 (x42 + (1 : Int32)) h43 ) (fun j108_43 => if ((y27 >>> (y30 &&& 31)) &&& (1 : Int32)) = (1 : Int32) then (zo_b (zo_gR h32 10 y25 28) (fun v45 => zo_b (zq_rdI sc h32 v45 (((6 : Int32) * y29) + y30)) (fun v47 => zo_v h32 y25 10 (zm_postOf sc y25 y30 (1 : Int32) h32) (fun v50 h49 => zo_v h49 y25 10 (rec y25 (y26 &&& (((1 : Int32) <<< (y29 &&& 31)) ^^^ (-1 : Int32))) (y27 &&& (((1 : Int32) <<< (y30 &&& 31)) ^^^ (-1 : Int32))) (y28 + (v47 * v50)) h49) (fun w54 h53 => j108_43 y25 y26 y27 y28 y29 y30 h53))))) else (j108_43 y25 y26 y27 y28 y29 y30 h32))))
set_option maxRecDepth 4000 in
def zm_pools_b (sc : zX) (rec : Nat → Int32 → Int32 → Int32 → zH → Option (Unit × zH)) (a0 : Nat) (a1 : Int32) (a2 : Int32) (a3 : Int32) (h : zH) : Option (Unit × zH) := if a1 = 0 then (zo_b (zo_gI h 10 a0 40) (fun v2 => zo_l (fun (x4 : Nat) (x5 : Int32) (h6 : zH) => zo_b (zo_pI h6 10 x4 40 x5) (fun h7 => some ((), h7))) (fun j21_6 => if a3 ≤ v2 then (zo_b (zo_gI h 10 a0 40) (fun v10 => j21_6 a0 v10 h)) else (j21_6 a0 a3 h)))) else (zm_pools_l28 sc rec zo_F a0 a1 a2 a3 (0 : Int32) h (fun (x19 : Nat) (x20 : Int32) (x21 : Int32) (x22 : Int32) (x23 : Int32) (h24 : zH) => zm_pools_l46 sc rec zo_F x19 x20 x21 x22 x23 (0 : Int32) h24 ))
set_option maxRecDepth 4000 in
theorem zm_pools_l28_ok (sc : zX) (d : Nat) (hd : 0 ≤ d) (rec : Nat → Int32 → Int32 → Int32 → zH → Option (Unit × zH)) (hrec : ∀ (z0 : Nat) (z1 : Int32) (z2 : Int32) (z3 : Int32) (hz : zH) (rz : Unit) (hy : zH), rec z0 z1 z2 z3 hz = some (rz, hy) → zq_wm sc d 243 [.ref z0, .int z1, .int z2, .int z3] hz (none, hy)) : ∀ (n : Nat) (y12 : Nat) (y13 : Int32) (y14 : Int32) (y15 : Int32) (y16 : Int32) (h17 : zH) (k43 : Nat → Int32 → Int32 → Int32 → Int32 → zH → Option (Unit × zH)) (ro_ : Unit) (ho_ : zH), (∀ (z0 : Nat) (z1 : Int32) (z2 : Int32) (z3 : Int32) (z4 : Int32) (hz : zH), k43 z0 z1 z2 z3 z4 hz = some (ro_, ho_) → zq_wp sc (d + 1) 243 43 [some (.ref z0), some (.int z1), some (.int z2), some (.int z3), some (.int z4), none] [] hz (none, ho_)) → zm_pools_l28 sc rec n y12 y13 y14 y15 y16 h17 k43 = some (ro_, ho_) → zq_wp sc (d + 1) 243 28 [some (.ref y12), some (.int y13), some (.int y14), some (.int y15), some (.int y16), none] [] h17 (none, ho_) := by
  intro n
  induction n with
  | zero => intro y12 y13 y14 y15 y16 h17 k43 ro_ ho_ hk43 hf; cases hf
  | succ n ih =>
    intro y12 y13 y14 y15 y16 h17 k43 ro_ ho_ hk43 hf
    refine zq_wg 5 (pc' := 34) (lv' := [some (.ref y12), some (.int y13), some (.int y14), some (.int y15), some (.int y16), none]) (st' := [.int ((y13 >>> (y16 &&& 31)) &&& (1 : Int32))]) (h' := h17) rfl ?_
    refine zr_if (((y13 >>> (y16 &&& 31)) &&& (1 : Int32)) = 0) 37 43 (st' := []) rfl rfl (fun b18 => ?_) (fun b18 => ?_)
    · have hf := zo_t hf b18
      refine zq_wg 2 (pc' := 28) (lv' := [some (.ref y12), some (.int y13), some (.int y14), some (.int y15), some (.int (y16 + (1 : Int32))), none]) (st' := []) (h' := h17) rfl ?_
      exact ih y12 y13 y14 y15 (y16 + (1 : Int32)) h17 _ _ _ hk43 hf
    · have hf := zo_f hf b18
      exact hk43 y12 y13 y14 y15 y16 h17 hf
set_option maxRecDepth 4000 in
theorem zm_pools_l46_ok (sc : zX) (d : Nat) (hd : 0 ≤ d) (rec : Nat → Int32 → Int32 → Int32 → zH → Option (Unit × zH)) (hrec : ∀ (z0 : Nat) (z1 : Int32) (z2 : Int32) (z3 : Int32) (hz : zH) (rz : Unit) (hy : zH), rec z0 z1 z2 z3 hz = some (rz, hy) → zq_wm sc d 243 [.ref z0, .int z1, .int z2, .int z3] hz (none, hy)) : ∀ (n : Nat) (y25 : Nat) (y26 : Int32) (y27 : Int32) (y28 : Int32) (y29 : Int32) (y30 : Int32) (h31 : zH) (ro_ : Unit) (ho_ : zH),  zm_pools_l46 sc rec n y25 y26 y27 y28 y29 y30 h31  = some (ro_, ho_) → zq_wp sc (d + 1) 243 46 [some (.ref y25), some (.int y26), some (.int y27), some (.int y28), some (.int y29), some (.int y30)] [] h31 (none, ho_) := by
  intro n
  induction n with
  | zero => intro y25 y26 y27 y28 y29 y30 h31 ro_ ho_ hf; cases hf
  | succ n ih =>
    intro y25 y26 y27 y28 y29 y30 h31 ro_ ho_ hf
    refine zq_wg 2 (pc' := 49) (lv' := [some (.ref y25), some (.int y26), some (.int y27), some (.int y28), some (.int y29), some (.int y30)]) (st' := [.ref y25, .int y30]) (h' := h31) rfl ?_
    obtain ⟨e35, v33, h32, e34, hf⟩ := zo_v_s hf
    refine zr_cv zq_m151 [] [.int y30] rfl rfl rfl rfl rfl (Nat.le_of_ble_eq_true rfl) (Nat.le_of_ble_eq_true rfl) e35 (zm_posts_ok sc d (by omega) e34) ?_
    refine zq_wg 0 (pc' := 52) (lv' := [some (.ref y25), some (.int y26), some (.int y27), some (.int y28), some (.int y29), some (.int y30)]) (st' := [.int v33, .int y30]) (h' := h32) rfl ?_
    refine zr_if (v33 ≤ y30) 114 55 (st' := []) rfl rfl (fun b36 => ?_) (fun b36 => ?_)
    · have hf := zo_t hf b36
      exact zr_rv rfl rfl hf
    · have hf := zo_f hf b36
      refine zq_wg 6 (pc' := 62) (lv' := [some (.ref y25), some (.int y26), some (.int y27), some (.int y28), some (.int y29), some (.int y30)]) (st' := [.int (1 : Int32), .int ((y27 >>> (y30 &&& 31)) &&& (1 : Int32))]) (h' := h32) rfl ?_
      obtain ⟨j108_43, hjj108_43, hf⟩ := zo_lj hf
      have kj108_43 : ∀ (x37 : Nat) (x38 : Int32) (x39 : Int32) (x40 : Int32) (x41 : Int32) (x42 : Int32) (h43 : zH), j108_43 x37 x38 x39 x40 x41 x42 h43 = some (ro_, ho_) → zq_wp sc (d + 1) 243 108 [some (.ref x37), some (.int x38), some (.int x39), some (.int x40), some (.int x41), some (.int x42)] [] h43 (none, ho_) := by
        intro x37 x38 x39 x40 x41 x42 h43 hf
        rw [hjj108_43] at hf
        refine zq_wg 2 (pc' := 46) (lv' := [some (.ref x37), some (.int x38), some (.int x39), some (.int x40), some (.int x41), some (.int (x42 + (1 : Int32)))]) (st' := []) (h' := h43) rfl ?_
        exact ih x37 x38 x39 x40 x41 (x42 + (1 : Int32)) h43 _ _ hf
      refine zr_if (((y27 >>> (y30 &&& 31)) &&& (1 : Int32)) = (1 : Int32)) 65 108 (st' := []) rfl rfl (fun b44 => ?_) (fun b44 => ?_)
      · have hf := zo_t hf b44
        refine zq_wg 17 (pc' := 84) (lv' := [some (.ref y25), some (.int y26), some (.int y27), some (.int y28), some (.int y29), some (.int y30)]) (st' := [.ref y25, .int y28, .int (y27 &&& (((1 : Int32) <<< (y30 &&& 31)) ^^^ (-1 : Int32))), .int (y26 &&& (((1 : Int32) <<< (y29 &&& 31)) ^^^ (-1 : Int32))), .ref y25]) (h' := h32) rfl ?_
        obtain ⟨v45, e46, hf⟩ := zo_b_s hf
        refine zr_gR rfl rfl (by decide) rfl e46 ?_
        refine zq_wg 5 (pc' := 95) (lv' := [some (.ref y25), some (.int y26), some (.int y27), some (.int y28), some (.int y29), some (.int y30)]) (st' := [.int (((6 : Int32) * y29) + y30), .ref v45, .int y28, .int (y27 &&& (((1 : Int32) <<< (y30 &&& 31)) ^^^ (-1 : Int32))), .int (y26 &&& (((1 : Int32) <<< (y29 &&& 31)) ^^^ (-1 : Int32))), .ref y25]) (h' := h32) rfl ?_
        obtain ⟨v47, e48, hf⟩ := zo_b_s hf
        refine zr_iald rfl e48 ?_
        refine zq_wg 3 (pc' := 100) (lv' := [some (.ref y25), some (.int y26), some (.int y27), some (.int y28), some (.int y29), some (.int y30)]) (st' := [.int (1 : Int32), .int y30, .ref y25, .int v47, .int y28, .int (y27 &&& (((1 : Int32) <<< (y30 &&& 31)) ^^^ (-1 : Int32))), .int (y26 &&& (((1 : Int32) <<< (y29 &&& 31)) ^^^ (-1 : Int32))), .ref y25]) (h' := h32) rfl ?_
        obtain ⟨e52, v50, h49, e51, hf⟩ := zo_v_s hf
        refine zr_cv zq_m193 [.int y30, .int (1 : Int32)] [.int v47, .int y28, .int (y27 &&& (((1 : Int32) <<< (y30 &&& 31)) ^^^ (-1 : Int32))), .int (y26 &&& (((1 : Int32) <<< (y29 &&& 31)) ^^^ (-1 : Int32))), .ref y25] rfl rfl rfl rfl rfl (Nat.le_of_ble_eq_true rfl) (Nat.le_of_ble_eq_true rfl) e52 (zm_postOf_ok sc d (by omega) e51) ?_
        refine zq_wg 0 (pc' := 103) (lv' := [some (.ref y25), some (.int y26), some (.int y27), some (.int y28), some (.int y29), some (.int y30)]) (st' := [.int v50, .int v47, .int y28, .int (y27 &&& (((1 : Int32) <<< (y30 &&& 31)) ^^^ (-1 : Int32))), .int (y26 &&& (((1 : Int32) <<< (y29 &&& 31)) ^^^ (-1 : Int32))), .ref y25]) (h' := h49) rfl ?_
        refine zq_wg 2 (pc' := 105) (lv' := [some (.ref y25), some (.int y26), some (.int y27), some (.int y28), some (.int y29), some (.int y30)]) (st' := [.int (y28 + (v47 * v50)), .int (y27 &&& (((1 : Int32) <<< (y30 &&& 31)) ^^^ (-1 : Int32))), .int (y26 &&& (((1 : Int32) <<< (y29 &&& 31)) ^^^ (-1 : Int32))), .ref y25]) (h' := h49) rfl ?_
        obtain ⟨e56, w54, h53, e55, hf⟩ := zo_v_s hf
        refine zr_cv zq_m243 [.int (y26 &&& (((1 : Int32) <<< (y29 &&& 31)) ^^^ (-1 : Int32))), .int (y27 &&& (((1 : Int32) <<< (y30 &&& 31)) ^^^ (-1 : Int32))), .int (y28 + (v47 * v50))] [] rfl rfl rfl rfl rfl (Nat.le_of_ble_eq_true rfl) (Nat.le_of_ble_eq_true rfl) e56 (hrec y25 (y26 &&& (((1 : Int32) <<< (y29 &&& 31)) ^^^ (-1 : Int32))) (y27 &&& (((1 : Int32) <<< (y30 &&& 31)) ^^^ (-1 : Int32))) (y28 + (v47 * v50)) h49 _ _ e55) ?_
        refine zq_wg 0 (pc' := 108) (lv' := [some (.ref y25), some (.int y26), some (.int y27), some (.int y28), some (.int y29), some (.int y30)]) (st' := []) (h' := h53) rfl ?_
        exact kj108_43 y25 y26 y27 y28 y29 y30 h53 hf
      · have hf := zo_f hf b44
        exact kj108_43 y25 y26 y27 y28 y29 y30 h32 hf
set_option maxRecDepth 4000 in
theorem zm_pools_bok (sc : zX) (d : Nat) (hd : 0 ≤ d) (rec : Nat → Int32 → Int32 → Int32 → zH → Option (Unit × zH)) (hrec : ∀ (z0 : Nat) (z1 : Int32) (z2 : Int32) (z3 : Int32) (hz : zH) (rz : Unit) (hy : zH), rec z0 z1 z2 z3 hz = some (rz, hy) → zq_wm sc d 243 [.ref z0, .int z1, .int z2, .int z3] hz (none, hy)) (a0 : Nat) (a1 : Int32) (a2 : Int32) (a3 : Int32) (h : zH) (ro_ : Unit) (ho_ : zH) (hf : zm_pools_b sc rec a0 a1 a2 a3 h = some (ro_, ho_)) : zq_wm sc (d + 1) 243 [.ref a0, .int a1, .int a2, .int a3] h (none, ho_) := by
  unfold zm_pools_b at hf
  show zq_wp sc (d + 1) 243 0 [some (.ref a0), some (.int a1), some (.int a2), some (.int a3), none, none] [] h _
  refine zq_wg 1 (pc' := 1) (lv' := [some (.ref a0), some (.int a1), some (.int a2), some (.int a3), none, none]) (st' := [.int a1]) (h' := h) rfl ?_
  refine zr_if (a1 = 0) 4 25 (st' := []) rfl rfl (fun b1 => ?_) (fun b1 => ?_)
  · have hf := zo_t hf b1
    refine zq_wg 3 (pc' := 7) (lv' := [some (.ref a0), some (.int a1), some (.int a2), some (.int a3), none, none]) (st' := [.ref a0, .int a3, .ref a0]) (h' := h) rfl ?_
    obtain ⟨v2, e3, hf⟩ := zo_b_s hf
    refine zr_gI rfl rfl (by decide) rfl e3 ?_
    obtain ⟨j21_6, hjj21_6, hf⟩ := zo_lj hf
    have kj21_6 : ∀ (x4 : Nat) (x5 : Int32) (h6 : zH), j21_6 x4 x5 h6 = some (ro_, ho_) → zq_wp sc (d + 1) 243 21 [none, none, none, none, none, none] [.int x5, .ref x4] h6 (none, ho_) := by
      intro x4 x5 h6 hf
      rw [hjj21_6] at hf
      obtain ⟨h7, e8, hf⟩ := zo_b_s hf
      refine zr_pI rfl rfl (by decide) rfl rfl e8 ?_
      exact zr_rv rfl rfl hf
    refine zr_if (a3 ≤ v2) 17 13 (st' := [.ref a0]) rfl rfl (fun b9 => ?_) (fun b9 => ?_)
    · have hf := zo_t hf b9
      refine zq_wg 1 (pc' := 18) (lv' := [some (.ref a0), some (.int a1), some (.int a2), some (.int a3), none, none]) (st' := [.ref a0, .ref a0]) (h' := h) rfl ?_
      obtain ⟨v10, e11, hf⟩ := zo_b_s hf
      refine zr_gI rfl rfl (by decide) rfl e11 ?_
      refine zq_fg [none, none, none, none, none, none] (zq_lvle_n (zq_lvle_n (zq_lvle_n (zq_lvle_n (zq_lvle_s (zq_lvle_s zq_lvle_nil)))))) ?_
      exact kj21_6 a0 v10 h hf
    · have hf := zo_f hf b9
      refine zq_wg 2 (pc' := 21) (lv' := [some (.ref a0), some (.int a1), some (.int a2), some (.int a3), none, none]) (st' := [.int a3, .ref a0]) (h' := h) rfl ?_
      refine zq_fg [none, none, none, none, none, none] (zq_lvle_n (zq_lvle_n (zq_lvle_n (zq_lvle_n (zq_lvle_s (zq_lvle_s zq_lvle_nil)))))) ?_
      exact kj21_6 a0 a3 h hf
  · have hf := zo_f hf b1
    refine zq_wg 2 (pc' := 28) (lv' := [some (.ref a0), some (.int a1), some (.int a2), some (.int a3), some (.int (0 : Int32)), none]) (st' := []) (h' := h) rfl ?_
    refine zm_pools_l28_ok sc d hd rec hrec zo_F a0 a1 a2 a3 (0 : Int32) h _ _ _ ?_ hf
    · intro x19 x20 x21 x22 x23 h24 hf
      refine zq_wg 2 (pc' := 46) (lv' := [some (.ref x19), some (.int x20), some (.int x21), some (.int x22), some (.int x23), some (.int (0 : Int32))]) (st' := []) (h' := h24) rfl ?_
      refine zm_pools_l46_ok sc d hd rec hrec zo_F x19 x20 x21 x22 x23 (0 : Int32) h24 _ _ hf
def zm_pools (sc : zX) : Nat → Nat → Int32 → Int32 → Int32 → zH → Option (Unit × zH)
  | 0, _, _, _, _, _ => none
  | n + 1, a0, a1, a2, a3, h => zm_pools_b sc (zm_pools sc n) a0 a1 a2 a3 h
theorem zm_pools_ok (sc : zX) : ∀ (n d : Nat) (hd : n + 1 ≤ d) {a0 : Nat} {a1 : Int32} {a2 : Int32} {a3 : Int32} {h : zH} {ro_ : Unit} {ho_ : zH} (hf : zm_pools sc n a0 a1 a2 a3 h = some (ro_, ho_)), zq_wm sc d 243 [.ref a0, .int a1, .int a2, .int a3] h (none, ho_) := by
  intro n
  induction n with
  | zero => intro d hd a0 a1 a2 a3 h ro_ ho_ hf; cases hf
  | succ n ih =>
    intro d hd a0 a1 a2 a3 h ro_ ho_ hf
    obtain ⟨d, rfl⟩ : ∃ d', d = d' + 1 := ⟨d - 1, by omega⟩
    exact zm_pools_bok sc d (by omega) (zm_pools sc n) (fun z0 z1 z2 z3 hz rz hy hf => ih d (by omega) hf) a0 a1 a2 a3 h ro_ ho_ hf
set_option maxRecDepth 4000 in
def zm_poolOf_l4 (sc : zX) : Nat → Nat → Int32 → Int32 → Int32 → zH → (Nat → Int32 → Int32 → zH → Option (Int32 × zH)) → Option (Int32 × zH)
  | 0, _, _, _, _, _, _ => none
  | n + 1, y1, y2, y3, y4, h5, k42 => zo_v h5 y1 10 (zm_men sc y1 h5) (fun v7 h6 => if v7 ≤ y4 then (k42 y1 y2 y3 h6) else (zo_l (fun (x11 : Nat) (x12 : Int32) (x13 : Int32) (x14 : Int32) (x15 : Int32) (h16 : zH) => zm_poolOf_l4 sc n x11 x12 (x14 ||| x15) (x13 + (1 : Int32)) h16 k42) (fun j34_16 => if ((y2 >>> (y4 &&& 31)) &&& (1 : Int32)) = (1 : Int32) then (zo_v h6 y1 10 (zm_postHeldBy sc y1 (0 : Int32) y4 h6) (fun v19 h18 => j34_16 y1 y2 y4 y3 ((1 : Int32) <<< (v19 &&& 31)) h18)) else (j34_16 y1 y2 y4 y3 (0 : Int32) h6))))
set_option maxRecDepth 4000 in
def zm_poolOf (sc : zX) (a0 : Nat) (a1 : Int32) (h : zH) : Option (Int32 × zH) := zm_poolOf_l4 sc zo_F a0 a1 (0 : Int32) (0 : Int32) h (fun (x22 : Nat) (x23 : Int32) (x24 : Int32) (h25 : zH) => zo_b (zo_pI h25 10 x22 40 (0 : Int32)) (fun h26 => zo_v h26 x22 10 (zm_pools sc 64 x22 x23 x24 (0 : Int32) h26) (fun w29 h28 => zo_b (zo_gI h28 10 x22 40) (fun v32 => some (v32, h28)))))
set_option maxRecDepth 4000 in
theorem zm_poolOf_l4_ok (sc : zX) (d : Nat) (hd : 65 ≤ d) : ∀ (n : Nat) (y1 : Nat) (y2 : Int32) (y3 : Int32) (y4 : Int32) (h5 : zH) (k42 : Nat → Int32 → Int32 → zH → Option (Int32 × zH)) (ro_ : Int32) (ho_ : zH), (∀ (z0 : Nat) (z1 : Int32) (z2 : Int32) (hz : zH), k42 z0 z1 z2 hz = some (ro_, ho_) → zq_wp sc (d + 1) 242 42 [some (.ref z0), some (.int z1), some (.int z2), none] [] hz (some (.int ro_), ho_)) → zm_poolOf_l4 sc n y1 y2 y3 y4 h5 k42 = some (ro_, ho_) → zq_wp sc (d + 1) 242 4 [some (.ref y1), some (.int y2), some (.int y3), some (.int y4)] [] h5 (some (.int ro_), ho_) := by
  intro n
  induction n with
  | zero => intro y1 y2 y3 y4 h5 k42 ro_ ho_ hk42 hf; cases hf
  | succ n ih =>
    intro y1 y2 y3 y4 h5 k42 ro_ ho_ hk42 hf
    refine zq_wg 2 (pc' := 6) (lv' := [some (.ref y1), some (.int y2), some (.int y3), some (.int y4)]) (st' := [.ref y1, .int y4]) (h' := h5) rfl ?_
    obtain ⟨e9, v7, h6, e8, hf⟩ := zo_v_s hf
    refine zr_cv zq_m152 [] [.int y4] rfl rfl rfl rfl rfl (Nat.le_of_ble_eq_true rfl) (Nat.le_of_ble_eq_true rfl) e9 (zm_men_ok sc d (by omega) e8) ?_
    refine zq_wg 0 (pc' := 9) (lv' := [some (.ref y1), some (.int y2), some (.int y3), some (.int y4)]) (st' := [.int v7, .int y4]) (h' := h6) rfl ?_
    refine zr_if (v7 ≤ y4) 42 12 (st' := []) rfl rfl (fun b10 => ?_) (fun b10 => ?_)
    · have hf := zo_t hf b10
      refine zq_fg [some (.ref y1), some (.int y2), some (.int y3), none] (zq_lvle_s (zq_lvle_s (zq_lvle_s (zq_lvle_n zq_lvle_nil)))) ?_
      exact hk42 y1 y2 y3 h6 hf
    · have hf := zo_f hf b10
      refine zq_wg 7 (pc' := 19) (lv' := [some (.ref y1), some (.int y2), some (.int y3), some (.int y4)]) (st' := [.int (1 : Int32), .int ((y2 >>> (y4 &&& 31)) &&& (1 : Int32)), .int y3]) (h' := h6) rfl ?_
      obtain ⟨j34_16, hjj34_16, hf⟩ := zo_lj hf
      have kj34_16 : ∀ (x11 : Nat) (x12 : Int32) (x13 : Int32) (x14 : Int32) (x15 : Int32) (h16 : zH), j34_16 x11 x12 x13 x14 x15 h16 = some (ro_, ho_) → zq_wp sc (d + 1) 242 34 [some (.ref x11), some (.int x12), none, some (.int x13)] [.int x15, .int x14] h16 (some (.int ro_), ho_) := by
        intro x11 x12 x13 x14 x15 h16 hf
        rw [hjj34_16] at hf
        refine zq_wg 4 (pc' := 4) (lv' := [some (.ref x11), some (.int x12), some (.int (x14 ||| x15)), some (.int (x13 + (1 : Int32)))]) (st' := []) (h' := h16) rfl ?_
        exact ih x11 x12 (x14 ||| x15) (x13 + (1 : Int32)) h16 _ _ _ hk42 hf
      refine zr_if (((y2 >>> (y4 &&& 31)) &&& (1 : Int32)) = (1 : Int32)) 22 33 (st' := [.int y3]) rfl rfl (fun b17 => ?_) (fun b17 => ?_)
      · have hf := zo_t hf b17
        refine zq_wg 4 (pc' := 26) (lv' := [some (.ref y1), some (.int y2), some (.int y3), some (.int y4)]) (st' := [.int y4, .int (0 : Int32), .ref y1, .int (1 : Int32), .int y3]) (h' := h6) rfl ?_
        obtain ⟨e21, v19, h18, e20, hf⟩ := zo_v_s hf
        refine zr_cv zq_m199 [.int (0 : Int32), .int y4] [.int (1 : Int32), .int y3] rfl rfl rfl rfl rfl (Nat.le_of_ble_eq_true rfl) (Nat.le_of_ble_eq_true rfl) e21 (zm_postHeldBy_ok sc d (by omega) e20) ?_
        refine zq_wg 0 (pc' := 29) (lv' := [some (.ref y1), some (.int y2), some (.int y3), some (.int y4)]) (st' := [.int v19, .int (1 : Int32), .int y3]) (h' := h18) rfl ?_
        refine zq_wg 2 (pc' := 34) (lv' := [some (.ref y1), some (.int y2), some (.int y3), some (.int y4)]) (st' := [.int ((1 : Int32) <<< (v19 &&& 31)), .int y3]) (h' := h18) rfl ?_
        refine zq_fg [some (.ref y1), some (.int y2), none, some (.int y4)] (zq_lvle_s (zq_lvle_s (zq_lvle_n (zq_lvle_s zq_lvle_nil)))) ?_
        exact kj34_16 y1 y2 y4 y3 ((1 : Int32) <<< (v19 &&& 31)) h18 hf
      · have hf := zo_f hf b17
        refine zq_wg 1 (pc' := 34) (lv' := [some (.ref y1), some (.int y2), some (.int y3), some (.int y4)]) (st' := [.int (0 : Int32), .int y3]) (h' := h6) rfl ?_
        refine zq_fg [some (.ref y1), some (.int y2), none, some (.int y4)] (zq_lvle_s (zq_lvle_s (zq_lvle_n (zq_lvle_s zq_lvle_nil)))) ?_
        exact kj34_16 y1 y2 y4 y3 (0 : Int32) h6 hf
set_option maxRecDepth 4000 in
theorem zm_poolOf_ok (sc : zX) (d : Nat) (hd : 66 ≤ d) {a0 : Nat} {a1 : Int32} {h : zH} {ro_ : Int32} {ho_ : zH} (hf : zm_poolOf sc a0 a1 h = some (ro_, ho_)) : zq_wm sc d 242 [.ref a0, .int a1] h (some (.int ro_), ho_) := by
  unfold zm_poolOf at hf
  obtain ⟨d, rfl⟩ : ∃ d', d = d' + 1 := ⟨d - 1, by omega⟩
  have hd : 65 ≤ d := by omega
  show zq_wp sc (d + 1) 242 0 [some (.ref a0), some (.int a1), none, none] [] h _
  refine zq_wg 4 (pc' := 4) (lv' := [some (.ref a0), some (.int a1), some (.int (0 : Int32)), some (.int (0 : Int32))]) (st' := []) (h' := h) rfl ?_
  refine zm_poolOf_l4_ok sc d hd zo_F a0 a1 (0 : Int32) (0 : Int32) h _ _ _ ?_ hf
  · intro x22 x23 x24 h25 hf
    refine zq_wg 2 (pc' := 44) (lv' := [some (.ref x22), some (.int x23), some (.int x24), none]) (st' := [.int (0 : Int32), .ref x22]) (h' := h25) rfl ?_
    obtain ⟨h26, e27, hf⟩ := zo_b_s hf
    refine zr_pI rfl rfl (by decide) rfl rfl e27 ?_
    refine zq_wg 4 (pc' := 51) (lv' := [some (.ref x22), some (.int x23), some (.int x24), none]) (st' := [.int (0 : Int32), .int x24, .int x23, .ref x22]) (h' := h26) rfl ?_
    obtain ⟨e31, w29, h28, e30, hf⟩ := zo_v_s hf
    refine zr_cv zq_m243 [.int x23, .int x24, .int (0 : Int32)] [] rfl rfl rfl rfl rfl (Nat.le_of_ble_eq_true rfl) (Nat.le_of_ble_eq_true rfl) e31 (zm_pools_ok sc 64 d (by omega) e30) ?_
    refine zq_wg 0 (pc' := 54) (lv' := [some (.ref x22), some (.int x23), some (.int x24), none]) (st' := []) (h' := h28) rfl ?_
    refine zq_wg 1 (pc' := 55) (lv' := [some (.ref x22), some (.int x23), some (.int x24), none]) (st' := [.ref x22]) (h' := h28) rfl ?_
    obtain ⟨v32, e33, hf⟩ := zo_b_s hf
    refine zr_gI rfl rfl (by decide) rfl e33 ?_
    exact zr_ri rfl rfl rfl hf
set_option maxRecDepth 4000 in
def zm_pool (sc : zX) (a0 : Nat) (a1 : Int32) (h : zH) : Option (Int32 × zH) := zo_b (zo_pI h 10 a0 0 (0 : Int32)) (fun h1 => zo_v h1 a0 10 (zm_arePooled sc a0 a1 h1) (fun v4 h3 => if v4 = 0 then (some ((-1 : Int32), h3)) else (zo_v h3 a0 10 (zm_laysSkills sc a0 h3) (fun w9 h8 => zo_v h8 a0 10 (zm_poolOf sc a0 a1 h8) (fun v13 h12 => some (v13, h12))))))
set_option maxRecDepth 4000 in
theorem zm_pool_ok (sc : zX) (d : Nat) (hd : 67 ≤ d) {a0 : Nat} {a1 : Int32} {h : zH} {ro_ : Int32} {ho_ : zH} (hf : zm_pool sc a0 a1 h = some (ro_, ho_)) : zq_wm sc d 240 [.ref a0, .int a1] h (some (.int ro_), ho_) := by
  unfold zm_pool at hf
  obtain ⟨d, rfl⟩ : ∃ d', d = d' + 1 := ⟨d - 1, by omega⟩
  have hd : 66 ≤ d := by omega
  show zq_wp sc (d + 1) 240 0 [some (.ref a0), some (.int a1)] [] h _
  refine zq_wg 2 (pc' := 2) (lv' := [some (.ref a0), some (.int a1)]) (st' := [.int (0 : Int32), .ref a0]) (h' := h) rfl ?_
  obtain ⟨h1, e2, hf⟩ := zo_b_s hf
  refine zr_pI rfl rfl (by decide) rfl rfl e2 ?_
  refine zq_wg 2 (pc' := 7) (lv' := [some (.ref a0), some (.int a1)]) (st' := [.int a1, .ref a0]) (h' := h1) rfl ?_
  obtain ⟨e6, v4, h3, e5, hf⟩ := zo_v_s hf
  refine zr_cv zq_m241 [.int a1] [] rfl rfl rfl rfl rfl (Nat.le_of_ble_eq_true rfl) (Nat.le_of_ble_eq_true rfl) e6 (zm_arePooled_ok sc d (by omega) e5) ?_
  refine zq_wg 0 (pc' := 10) (lv' := [some (.ref a0), some (.int a1)]) (st' := [.int v4]) (h' := h3) rfl ?_
  refine zr_if (v4 = 0) 13 15 (st' := []) rfl rfl (fun b7 => ?_) (fun b7 => ?_)
  · have hf := zo_t hf b7
    refine zq_wg 1 (pc' := 14) (lv' := [some (.ref a0), some (.int a1)]) (st' := [.int (-1 : Int32)]) (h' := h3) rfl ?_
    exact zr_ri rfl rfl rfl hf
  · have hf := zo_f hf b7
    refine zq_wg 1 (pc' := 16) (lv' := [some (.ref a0), some (.int a1)]) (st' := [.ref a0]) (h' := h3) rfl ?_
    obtain ⟨e11, w9, h8, e10, hf⟩ := zo_v_s hf
    refine zr_cv zq_m190 [] [] rfl rfl rfl rfl rfl (Nat.le_of_ble_eq_true rfl) (Nat.le_of_ble_eq_true rfl) e11 (zm_laysSkills_ok sc d (by omega) e10) ?_
    refine zq_wg 0 (pc' := 19) (lv' := [some (.ref a0), some (.int a1)]) (st' := []) (h' := h8) rfl ?_
    refine zq_wg 2 (pc' := 21) (lv' := [some (.ref a0), some (.int a1)]) (st' := [.int a1, .ref a0]) (h' := h8) rfl ?_
    obtain ⟨e15, v13, h12, e14, hf⟩ := zo_v_s hf
    refine zr_cv zq_m242 [.int a1] [] rfl rfl rfl rfl rfl (Nat.le_of_ble_eq_true rfl) (Nat.le_of_ble_eq_true rfl) e15 (zm_poolOf_ok sc d (by omega) e14) ?_
    refine zq_wg 0 (pc' := 24) (lv' := [some (.ref a0), some (.int a1)]) (st' := [.int v13]) (h' := h12) rfl ?_
    exact zr_ri rfl rfl rfl hf
set_option maxRecDepth 4000 in
def zm_bits_l4 (sc : zX) : Nat → Int32 → Int32 → Int32 → zH → Option (Int32 × zH)
  | 0, _, _, _, _ => none
  | n + 1, y1, y2, y3, h4 => if (30 : Int32) ≤ y3 then (some (y2, h4)) else (zm_bits_l4 sc n y1 (y2 + ((y1 >>> (y3 &&& 31)) &&& (1 : Int32))) (y3 + (1 : Int32)) h4 )
set_option maxRecDepth 4000 in
def zm_bits (sc : zX) (a0 : Int32) (h : zH) : Option (Int32 × zH) := zm_bits_l4 sc zo_F a0 (0 : Int32) (0 : Int32) h 
set_option maxRecDepth 4000 in
theorem zm_bits_l4_ok (sc : zX) (d : Nat) : ∀ (n : Nat) (y1 : Int32) (y2 : Int32) (y3 : Int32) (h4 : zH) (ro_ : Int32) (ho_ : zH),  zm_bits_l4 sc n y1 y2 y3 h4  = some (ro_, ho_) → zq_wp sc d 245 4 [some (.int y1), some (.int y2), some (.int y3)] [] h4 (some (.int ro_), ho_) := by
  intro n
  induction n with
  | zero => intro y1 y2 y3 h4 ro_ ho_ hf; cases hf
  | succ n ih =>
    intro y1 y2 y3 h4 ro_ ho_ hf
    refine zq_wg 2 (pc' := 7) (lv' := [some (.int y1), some (.int y2), some (.int y3)]) (st' := [.int (30 : Int32), .int y3]) (h' := h4) rfl ?_
    refine zr_if ((30 : Int32) ≤ y3) 24 10 (st' := []) rfl rfl (fun b5 => ?_) (fun b5 => ?_)
    · have hf := zo_t hf b5
      refine zq_wg 1 (pc' := 25) (lv' := [some (.int y1), some (.int y2), some (.int y3)]) (st' := [.int y2]) (h' := h4) rfl ?_
      exact zr_ri rfl rfl rfl hf
    · have hf := zo_f hf b5
      refine zq_wg 10 (pc' := 4) (lv' := [some (.int y1), some (.int (y2 + ((y1 >>> (y3 &&& 31)) &&& (1 : Int32)))), some (.int (y3 + (1 : Int32)))]) (st' := []) (h' := h4) rfl ?_
      exact ih y1 (y2 + ((y1 >>> (y3 &&& 31)) &&& (1 : Int32))) (y3 + (1 : Int32)) h4 _ _ hf
set_option maxRecDepth 4000 in
theorem zm_bits_ok (sc : zX) (d : Nat) (hd : 0 ≤ d) {a0 : Int32} {h : zH} {ro_ : Int32} {ho_ : zH} (hf : zm_bits sc a0 h = some (ro_, ho_)) : zq_wm sc d 245 [.int a0] h (some (.int ro_), ho_) := by
  unfold zm_bits at hf
  show zq_wp sc d 245 0 [some (.int a0), none, none] [] h _
  refine zq_wg 4 (pc' := 4) (lv' := [some (.int a0), some (.int (0 : Int32)), some (.int (0 : Int32))]) (st' := []) (h' := h) rfl ?_
  refine zm_bits_l4_ok sc d zo_F a0 (0 : Int32) (0 : Int32) h _ _ hf
set_option maxRecDepth 4000 in
def zm_orders0_l4 (sc : zX) : Nat → Int32 → Int64 → Int32 → zH → Option (Int64 × zH)
  | 0, _, _, _, _ => none
  | n + 1, y1, y2, y3, h4 => if y1 < y3 then (some (y2, h4)) else (zm_orders0_l4 sc n y1 (y2 * y3.toInt64) (y3 + (1 : Int32)) h4 )
set_option maxRecDepth 4000 in
def zm_orders0 (sc : zX) (a0 : Int32) (h : zH) : Option (Int64 × zH) := zm_orders0_l4 sc zo_F a0 (1 : Int64) (2 : Int32) h 
set_option maxRecDepth 4000 in
theorem zm_orders0_l4_ok (sc : zX) (d : Nat) : ∀ (n : Nat) (y1 : Int32) (y2 : Int64) (y3 : Int32) (h4 : zH) (ro_ : Int64) (ho_ : zH),  zm_orders0_l4 sc n y1 y2 y3 h4  = some (ro_, ho_) → zq_wp sc d 246 4 [some (.int y1), some (.long y2), none, some (.int y3)] [] h4 (some (.long ro_), ho_) := by
  intro n
  induction n with
  | zero => intro y1 y2 y3 h4 ro_ ho_ hf; cases hf
  | succ n ih =>
    intro y1 y2 y3 h4 ro_ ho_ hf
    refine zq_wg 2 (pc' := 6) (lv' := [some (.int y1), some (.long y2), none, some (.int y3)]) (st' := [.int y1, .int y3]) (h' := h4) rfl ?_
    refine zr_if (y1 < y3) 20 9 (st' := []) rfl rfl (fun b5 => ?_) (fun b5 => ?_)
    · have hf := zo_t hf b5
      refine zq_wg 1 (pc' := 21) (lv' := [some (.int y1), some (.long y2), none, some (.int y3)]) (st' := [.long y2]) (h' := h4) rfl ?_
      exact zr_rl rfl rfl hf
    · have hf := zo_f hf b5
      refine zq_wg 7 (pc' := 4) (lv' := [some (.int y1), some (.long (y2 * y3.toInt64)), none, some (.int (y3 + (1 : Int32)))]) (st' := []) (h' := h4) rfl ?_
      exact ih y1 (y2 * y3.toInt64) (y3 + (1 : Int32)) h4 _ _ hf
set_option maxRecDepth 4000 in
theorem zm_orders0_ok (sc : zX) (d : Nat) (hd : 0 ≤ d) {a0 : Int32} {h : zH} {ro_ : Int64} {ho_ : zH} (hf : zm_orders0 sc a0 h = some (ro_, ho_)) : zq_wm sc d 246 [.int a0] h (some (.long ro_), ho_) := by
  unfold zm_orders0 at hf
  show zq_wp sc d 246 0 [some (.int a0), none, none, none] [] h _
  refine zq_wg 4 (pc' := 4) (lv' := [some (.int a0), some (.long (1 : Int64)), none, some (.int (2 : Int32))]) (st' := []) (h' := h) rfl ?_
  refine zm_orders0_l4_ok sc d zo_F a0 (1 : Int64) (2 : Int32) h _ _ hf
set_option maxRecDepth 4000 in
def zm_share_l46 (sc : zX) : Nat → Nat → Int32 → Int32 → Int64 → Int32 → Int32 → zH → (Int64 → Int32 → zH → Option (Int32 × zH)) → Option (Int32 × zH)
  | 0, _, _, _, _, _, _, _, _ => none
  | n + 1, y21, y22, y23, y24, y25, y26, h27, k125 => zo_v h27 y21 10 (zm_men sc y21 h27) (fun v29 h28 => if ((1 : Int32) <<< (v29 &&& 31)) ≤ y26 then (k125 y24 y25 h28) else (zo_l (fun (x33 : Nat) (x34 : Int32) (x35 : Int32) (x36 : Int64) (x37 : Int32) (x38 : Int32) (h39 : zH) => zm_share_l46 sc n x33 x34 x35 x36 x37 (x38 + (1 : Int32)) h39 k125) (fun j119_39 => if (y26 &&& (y22 ^^^ (-1 : Int32))) = 0 then (if ((y26 >>> (y23 &&& 31)) &&& (1 : Int32)) = 0 then (zo_c (zm_bits sc y26 h28) (fun v43 h42 => zo_c (zm_orders0 sc v43 h42) (fun v46 h45 => zo_c (zm_bits sc y26 h45) (fun v49 h48 => zo_c (zm_orders0 sc ((y25 - (1 : Int32)) - v49) h48) (fun v52 h51 => zo_v h51 y21 10 (zm_poolOf sc y21 (y26 ||| ((1 : Int32) <<< (y23 &&& 31))) h51) (fun v55 h54 => zo_v h54 y21 10 (zm_poolOf sc y21 y26 h54) (fun v59 h58 => j119_39 y21 y22 y23 (y24 + ((v46 * v52) * (v55 - v59).toInt64)) y25 y26 h58))))))) else (j119_39 y21 y22 y23 y24 y25 y26 h28)) else (j119_39 y21 y22 y23 y24 y25 y26 h28))))
set_option maxRecDepth 4000 in
def zm_share (sc : zX) (a0 : Nat) (a1 : Int32) (a2 : Int32) (h : zH) : Option (Int32 × zH) := zo_b (zo_pI h 10 a0 0 (0 : Int32)) (fun h1 => zo_v h1 a0 10 (zm_arePooled sc a0 a1 h1) (fun v4 h3 => if v4 = 0 then (some ((-1 : Int32), h3)) else (zo_v h3 a0 10 (zm_isMan sc a0 a2 h3) (fun v9 h8 => if v9 = 0 then (some ((-1 : Int32), h8)) else (if ((a1 >>> (a2 &&& 31)) &&& (1 : Int32)) = 0 then (some ((-1 : Int32), h8)) else (zo_v h8 a0 10 (zm_laysSkills sc a0 h8) (fun w15 h14 => zo_c (zm_bits sc a1 h14) (fun v19 h18 => zm_share_l46 sc zo_F a0 a1 a2 (0 : Int64) v19 (0 : Int32) h18 (fun (x62 : Int64) (x63 : Int32) (h64 : zH) => zo_c (zm_orders0 sc x63 h64) (fun v66 h65 => zo_b (zo_dvL (x62 * (1000 : Int64)) v66) (fun v68 => some (v68.toInt32, h65))))))))))))
set_option maxRecDepth 4000 in
theorem zm_share_l46_ok (sc : zX) (d : Nat) (hd : 66 ≤ d) : ∀ (n : Nat) (y21 : Nat) (y22 : Int32) (y23 : Int32) (y24 : Int64) (y25 : Int32) (y26 : Int32) (h27 : zH) (k125 : Int64 → Int32 → zH → Option (Int32 × zH)) (ro_ : Int32) (ho_ : zH), (∀ (z0 : Int64) (z1 : Int32) (hz : zH), k125 z0 z1 hz = some (ro_, ho_) → zq_wp sc (d + 1) 244 125 [none, none, none, some (.long z0), none, some (.int z1), none] [] hz (some (.int ro_), ho_)) → zm_share_l46 sc n y21 y22 y23 y24 y25 y26 h27 k125 = some (ro_, ho_) → zq_wp sc (d + 1) 244 46 [some (.ref y21), some (.int y22), some (.int y23), some (.long y24), none, some (.int y25), some (.int y26)] [] h27 (some (.int ro_), ho_) := by
  intro n
  induction n with
  | zero => intro y21 y22 y23 y24 y25 y26 h27 k125 ro_ ho_ hk125 hf; cases hf
  | succ n ih =>
    intro y21 y22 y23 y24 y25 y26 h27 k125 ro_ ho_ hk125 hf
    refine zq_wg 3 (pc' := 50) (lv' := [some (.ref y21), some (.int y22), some (.int y23), some (.long y24), none, some (.int y25), some (.int y26)]) (st' := [.ref y21, .int (1 : Int32), .int y26]) (h' := h27) rfl ?_
    obtain ⟨e31, v29, h28, e30, hf⟩ := zo_v_s hf
    refine zr_cv zq_m152 [] [.int (1 : Int32), .int y26] rfl rfl rfl rfl rfl (Nat.le_of_ble_eq_true rfl) (Nat.le_of_ble_eq_true rfl) e31 (zm_men_ok sc d (by omega) e30) ?_
    refine zq_wg 0 (pc' := 53) (lv' := [some (.ref y21), some (.int y22), some (.int y23), some (.long y24), none, some (.int y25), some (.int y26)]) (st' := [.int v29, .int (1 : Int32), .int y26]) (h' := h28) rfl ?_
    refine zq_wg 1 (pc' := 54) (lv' := [some (.ref y21), some (.int y22), some (.int y23), some (.long y24), none, some (.int y25), some (.int y26)]) (st' := [.int ((1 : Int32) <<< (v29 &&& 31)), .int y26]) (h' := h28) rfl ?_
    refine zr_if (((1 : Int32) <<< (v29 &&& 31)) ≤ y26) 125 57 (st' := []) rfl rfl (fun b32 => ?_) (fun b32 => ?_)
    · have hf := zo_t hf b32
      refine zq_fg [none, none, none, some (.long y24), none, some (.int y25), none] (zq_lvle_n (zq_lvle_n (zq_lvle_n (zq_lvle_s (zq_lvle_s (zq_lvle_s (zq_lvle_n zq_lvle_nil))))))) ?_
      exact hk125 y24 y25 h28 hf
    · have hf := zo_f hf b32
      refine zq_wg 5 (pc' := 63) (lv' := [some (.ref y21), some (.int y22), some (.int y23), some (.long y24), none, some (.int y25), some (.int y26)]) (st' := [.int (y26 &&& (y22 ^^^ (-1 : Int32)))]) (h' := h28) rfl ?_
      obtain ⟨j119_39, hjj119_39, hf⟩ := zo_lj hf
      have kj119_39 : ∀ (x33 : Nat) (x34 : Int32) (x35 : Int32) (x36 : Int64) (x37 : Int32) (x38 : Int32) (h39 : zH), j119_39 x33 x34 x35 x36 x37 x38 h39 = some (ro_, ho_) → zq_wp sc (d + 1) 244 119 [some (.ref x33), some (.int x34), some (.int x35), some (.long x36), none, some (.int x37), some (.int x38)] [] h39 (some (.int ro_), ho_) := by
        intro x33 x34 x35 x36 x37 x38 h39 hf
        rw [hjj119_39] at hf
        refine zq_wg 2 (pc' := 46) (lv' := [some (.ref x33), some (.int x34), some (.int x35), some (.long x36), none, some (.int x37), some (.int (x38 + (1 : Int32)))]) (st' := []) (h' := h39) rfl ?_
        exact ih x33 x34 x35 x36 x37 (x38 + (1 : Int32)) h39 _ _ _ hk125 hf
      refine zr_if ((y26 &&& (y22 ^^^ (-1 : Int32))) = 0) 66 119 (st' := []) rfl rfl (fun b40 => ?_) (fun b40 => ?_)
      · have hf := zo_t hf b40
        refine zq_wg 5 (pc' := 72) (lv' := [some (.ref y21), some (.int y22), some (.int y23), some (.long y24), none, some (.int y25), some (.int y26)]) (st' := [.int ((y26 >>> (y23 &&& 31)) &&& (1 : Int32))]) (h' := h28) rfl ?_
        refine zr_if (((y26 >>> (y23 &&& 31)) &&& (1 : Int32)) = 0) 75 119 (st' := []) rfl rfl (fun b41 => ?_) (fun b41 => ?_)
        · have hf := zo_t hf b41
          refine zq_wg 2 (pc' := 78) (lv' := [some (.ref y21), some (.int y22), some (.int y23), some (.long y24), none, some (.int y25), some (.int y26)]) (st' := [.int y26, .long y24]) (h' := h28) rfl ?_
          obtain ⟨v43, h42, e44, hf⟩ := zo_c_s hf
          refine zr_cs zq_m245 [.int y26] [.long y24] rfl rfl (by decide) rfl rfl rfl (Nat.le_of_ble_eq_true rfl) (Nat.le_of_ble_eq_true rfl) (zm_bits_ok sc d (by omega) e44) ?_
          refine zq_wg 0 (pc' := 81) (lv' := [some (.ref y21), some (.int y22), some (.int y23), some (.long y24), none, some (.int y25), some (.int y26)]) (st' := [.int v43, .long y24]) (h' := h42) rfl ?_
          obtain ⟨v46, h45, e47, hf⟩ := zo_c_s hf
          refine zr_cs zq_m246 [.int v43] [.long y24] rfl rfl (by decide) rfl rfl rfl (Nat.le_of_ble_eq_true rfl) (Nat.le_of_ble_eq_true rfl) (zm_orders0_ok sc d (by omega) e47) ?_
          refine zq_wg 0 (pc' := 84) (lv' := [some (.ref y21), some (.int y22), some (.int y23), some (.long y24), none, some (.int y25), some (.int y26)]) (st' := [.long v46, .long y24]) (h' := h45) rfl ?_
          refine zq_wg 4 (pc' := 90) (lv' := [some (.ref y21), some (.int y22), some (.int y23), some (.long y24), none, some (.int y25), some (.int y26)]) (st' := [.int y26, .int (y25 - (1 : Int32)), .long v46, .long y24]) (h' := h45) rfl ?_
          obtain ⟨v49, h48, e50, hf⟩ := zo_c_s hf
          refine zr_cs zq_m245 [.int y26] [.int (y25 - (1 : Int32)), .long v46, .long y24] rfl rfl (by decide) rfl rfl rfl (Nat.le_of_ble_eq_true rfl) (Nat.le_of_ble_eq_true rfl) (zm_bits_ok sc d (by omega) e50) ?_
          refine zq_wg 0 (pc' := 93) (lv' := [some (.ref y21), some (.int y22), some (.int y23), some (.long y24), none, some (.int y25), some (.int y26)]) (st' := [.int v49, .int (y25 - (1 : Int32)), .long v46, .long y24]) (h' := h48) rfl ?_
          refine zq_wg 1 (pc' := 94) (lv' := [some (.ref y21), some (.int y22), some (.int y23), some (.long y24), none, some (.int y25), some (.int y26)]) (st' := [.int ((y25 - (1 : Int32)) - v49), .long v46, .long y24]) (h' := h48) rfl ?_
          obtain ⟨v52, h51, e53, hf⟩ := zo_c_s hf
          refine zr_cs zq_m246 [.int ((y25 - (1 : Int32)) - v49)] [.long v46, .long y24] rfl rfl (by decide) rfl rfl rfl (Nat.le_of_ble_eq_true rfl) (Nat.le_of_ble_eq_true rfl) (zm_orders0_ok sc d (by omega) e53) ?_
          refine zq_wg 0 (pc' := 97) (lv' := [some (.ref y21), some (.int y22), some (.int y23), some (.long y24), none, some (.int y25), some (.int y26)]) (st' := [.long v52, .long v46, .long y24]) (h' := h51) rfl ?_
          refine zq_wg 7 (pc' := 105) (lv' := [some (.ref y21), some (.int y22), some (.int y23), some (.long y24), none, some (.int y25), some (.int y26)]) (st' := [.int (y26 ||| ((1 : Int32) <<< (y23 &&& 31))), .ref y21, .long (v46 * v52), .long y24]) (h' := h51) rfl ?_
          obtain ⟨e57, v55, h54, e56, hf⟩ := zo_v_s hf
          refine zr_cv zq_m242 [.int (y26 ||| ((1 : Int32) <<< (y23 &&& 31)))] [.long (v46 * v52), .long y24] rfl rfl rfl rfl rfl (Nat.le_of_ble_eq_true rfl) (Nat.le_of_ble_eq_true rfl) e57 (zm_poolOf_ok sc d (by omega) e56) ?_
          refine zq_wg 0 (pc' := 108) (lv' := [some (.ref y21), some (.int y22), some (.int y23), some (.long y24), none, some (.int y25), some (.int y26)]) (st' := [.int v55, .long (v46 * v52), .long y24]) (h' := h54) rfl ?_
          refine zq_wg 2 (pc' := 111) (lv' := [some (.ref y21), some (.int y22), some (.int y23), some (.long y24), none, some (.int y25), some (.int y26)]) (st' := [.int y26, .ref y21, .int v55, .long (v46 * v52), .long y24]) (h' := h54) rfl ?_
          obtain ⟨e61, v59, h58, e60, hf⟩ := zo_v_s hf
          refine zr_cv zq_m242 [.int y26] [.int v55, .long (v46 * v52), .long y24] rfl rfl rfl rfl rfl (Nat.le_of_ble_eq_true rfl) (Nat.le_of_ble_eq_true rfl) e61 (zm_poolOf_ok sc d (by omega) e60) ?_
          refine zq_wg 0 (pc' := 114) (lv' := [some (.ref y21), some (.int y22), some (.int y23), some (.long y24), none, some (.int y25), some (.int y26)]) (st' := [.int v59, .int v55, .long (v46 * v52), .long y24]) (h' := h58) rfl ?_
          refine zq_wg 5 (pc' := 119) (lv' := [some (.ref y21), some (.int y22), some (.int y23), some (.long (y24 + ((v46 * v52) * (v55 - v59).toInt64))), none, some (.int y25), some (.int y26)]) (st' := []) (h' := h58) rfl ?_
          exact kj119_39 y21 y22 y23 (y24 + ((v46 * v52) * (v55 - v59).toInt64)) y25 y26 h58 hf
        · have hf := zo_f hf b41
          exact kj119_39 y21 y22 y23 y24 y25 y26 h28 hf
      · have hf := zo_f hf b40
        exact kj119_39 y21 y22 y23 y24 y25 y26 h28 hf
set_option maxRecDepth 4000 in
theorem zm_share_ok (sc : zX) (d : Nat) (hd : 67 ≤ d) {a0 : Nat} {a1 : Int32} {a2 : Int32} {h : zH} {ro_ : Int32} {ho_ : zH} (hf : zm_share sc a0 a1 a2 h = some (ro_, ho_)) : zq_wm sc d 244 [.ref a0, .int a1, .int a2] h (some (.int ro_), ho_) := by
  unfold zm_share at hf
  obtain ⟨d, rfl⟩ : ∃ d', d = d' + 1 := ⟨d - 1, by omega⟩
  have hd : 66 ≤ d := by omega
  show zq_wp sc (d + 1) 244 0 [some (.ref a0), some (.int a1), some (.int a2), none, none, none, none] [] h _
  refine zq_wg 2 (pc' := 2) (lv' := [some (.ref a0), some (.int a1), some (.int a2), none, none, none, none]) (st' := [.int (0 : Int32), .ref a0]) (h' := h) rfl ?_
  obtain ⟨h1, e2, hf⟩ := zo_b_s hf
  refine zr_pI rfl rfl (by decide) rfl rfl e2 ?_
  refine zq_wg 2 (pc' := 7) (lv' := [some (.ref a0), some (.int a1), some (.int a2), none, none, none, none]) (st' := [.int a1, .ref a0]) (h' := h1) rfl ?_
  obtain ⟨e6, v4, h3, e5, hf⟩ := zo_v_s hf
  refine zr_cv zq_m241 [.int a1] [] rfl rfl rfl rfl rfl (Nat.le_of_ble_eq_true rfl) (Nat.le_of_ble_eq_true rfl) e6 (zm_arePooled_ok sc d (by omega) e5) ?_
  refine zq_wg 0 (pc' := 10) (lv' := [some (.ref a0), some (.int a1), some (.int a2), none, none, none, none]) (st' := [.int v4]) (h' := h3) rfl ?_
  refine zr_if (v4 = 0) 29 13 (st' := []) rfl rfl (fun b7 => ?_) (fun b7 => ?_)
  · have hf := zo_t hf b7
    refine zq_wg 1 (pc' := 30) (lv' := [some (.ref a0), some (.int a1), some (.int a2), none, none, none, none]) (st' := [.int (-1 : Int32)]) (h' := h3) rfl ?_
    exact zr_ri rfl rfl rfl hf
  · have hf := zo_f hf b7
    refine zq_wg 2 (pc' := 15) (lv' := [some (.ref a0), some (.int a1), some (.int a2), none, none, none, none]) (st' := [.int a2, .ref a0]) (h' := h3) rfl ?_
    obtain ⟨e11, v9, h8, e10, hf⟩ := zo_v_s hf
    refine zr_cv zq_m198 [.int a2] [] rfl rfl rfl rfl rfl (Nat.le_of_ble_eq_true rfl) (Nat.le_of_ble_eq_true rfl) e11 (zm_isMan_ok sc d (by omega) e10) ?_
    refine zq_wg 0 (pc' := 18) (lv' := [some (.ref a0), some (.int a1), some (.int a2), none, none, none, none]) (st' := [.int v9]) (h' := h8) rfl ?_
    refine zr_if (v9 = 0) 29 21 (st' := []) rfl rfl (fun b12 => ?_) (fun b12 => ?_)
    · have hf := zo_t hf b12
      refine zq_wg 1 (pc' := 30) (lv' := [some (.ref a0), some (.int a1), some (.int a2), none, none, none, none]) (st' := [.int (-1 : Int32)]) (h' := h8) rfl ?_
      exact zr_ri rfl rfl rfl hf
    · have hf := zo_f hf b12
      refine zq_wg 5 (pc' := 26) (lv' := [some (.ref a0), some (.int a1), some (.int a2), none, none, none, none]) (st' := [.int ((a1 >>> (a2 &&& 31)) &&& (1 : Int32))]) (h' := h8) rfl ?_
      refine zr_if (((a1 >>> (a2 &&& 31)) &&& (1 : Int32)) = 0) 29 31 (st' := []) rfl rfl (fun b13 => ?_) (fun b13 => ?_)
      · have hf := zo_t hf b13
        refine zq_wg 1 (pc' := 30) (lv' := [some (.ref a0), some (.int a1), some (.int a2), none, none, none, none]) (st' := [.int (-1 : Int32)]) (h' := h8) rfl ?_
        exact zr_ri rfl rfl rfl hf
      · have hf := zo_f hf b13
        refine zq_wg 1 (pc' := 32) (lv' := [some (.ref a0), some (.int a1), some (.int a2), none, none, none, none]) (st' := [.ref a0]) (h' := h8) rfl ?_
        obtain ⟨e17, w15, h14, e16, hf⟩ := zo_v_s hf
        refine zr_cv zq_m190 [] [] rfl rfl rfl rfl rfl (Nat.le_of_ble_eq_true rfl) (Nat.le_of_ble_eq_true rfl) e17 (zm_laysSkills_ok sc d (by omega) e16) ?_
        refine zq_wg 0 (pc' := 35) (lv' := [some (.ref a0), some (.int a1), some (.int a2), none, none, none, none]) (st' := []) (h' := h14) rfl ?_
        refine zq_wg 3 (pc' := 38) (lv' := [some (.ref a0), some (.int a1), some (.int a2), some (.long (0 : Int64)), none, none, none]) (st' := [.int a1]) (h' := h14) rfl ?_
        obtain ⟨v19, h18, e20, hf⟩ := zo_c_s hf
        refine zr_cs zq_m245 [.int a1] [] rfl rfl (by decide) rfl rfl rfl (Nat.le_of_ble_eq_true rfl) (Nat.le_of_ble_eq_true rfl) (zm_bits_ok sc d (by omega) e20) ?_
        refine zq_wg 0 (pc' := 41) (lv' := [some (.ref a0), some (.int a1), some (.int a2), some (.long (0 : Int64)), none, none, none]) (st' := [.int v19]) (h' := h18) rfl ?_
        refine zq_wg 3 (pc' := 46) (lv' := [some (.ref a0), some (.int a1), some (.int a2), some (.long (0 : Int64)), none, some (.int v19), some (.int (0 : Int32))]) (st' := []) (h' := h18) rfl ?_
        refine zm_share_l46_ok sc d hd zo_F a0 a1 a2 (0 : Int64) v19 (0 : Int32) h18 _ _ _ ?_ hf
        · intro x62 x63 h64 hf
          refine zq_wg 4 (pc' := 132) (lv' := [none, none, none, some (.long x62), none, some (.int x63), none]) (st' := [.int x63, .long (x62 * (1000 : Int64))]) (h' := h64) rfl ?_
          obtain ⟨v66, h65, e67, hf⟩ := zo_c_s hf
          refine zr_cs zq_m246 [.int x63] [.long (x62 * (1000 : Int64))] rfl rfl (by decide) rfl rfl rfl (Nat.le_of_ble_eq_true rfl) (Nat.le_of_ble_eq_true rfl) (zm_orders0_ok sc d (by omega) e67) ?_
          refine zq_wg 0 (pc' := 135) (lv' := [none, none, none, some (.long x62), none, some (.int x63), none]) (st' := [.long v66, .long (x62 * (1000 : Int64))]) (h' := h65) rfl ?_
          obtain ⟨v68, e69, hf⟩ := zo_b_s hf
          refine zr_ldiv rfl e69 ?_
          refine zq_wg 1 (pc' := 137) (lv' := [none, none, none, some (.long x62), none, some (.int x63), none]) (st' := [.int v68.toInt32]) (h' := h65) rfl ?_
          exact zr_ri rfl rfl rfl hf
set_option maxRecDepth 4000 in
def zm_tell (sc : zX) (a0 : Nat) (a1 : Int32) (a2 : Int32) (h : zH) : Option (Int32 × zH) := zo_b (zo_pI h 10 a0 0 (0 : Int32)) (fun h1 => zo_v h1 a0 10 (zm_isMan sc a0 a1 h1) (fun v4 h3 => if v4 = 0 then (some ((0 : Int32), h3)) else (zo_v h3 a0 10 (zm_isPost sc a0 a2 h3) (fun v9 h8 => if v9 = 0 then (some ((0 : Int32), h8)) else (zo_b (zo_gR h8 10 a0 25) (fun v13 => zo_b (zq_rdI sc h8 v13 (22 : Int32)) (fun v15 => if v15 = (8 : Int32) then (some ((0 : Int32), h8)) else (zo_b (zo_gR h8 10 a0 25) (fun v18 => zo_b (zo_gR h8 10 a0 25) (fun v20 => zo_b (zq_rdI sc h8 v20 (22 : Int32)) (fun v22 => zo_b (zq_wrX 1 h8 v18 ((23 : Int32) + ((2 : Int32) * v22)) a1) (fun h24 => zo_b (zo_gR h24 10 a0 25) (fun v26 => zo_b (zo_gR h24 10 a0 25) (fun v28 => zo_b (zq_rdI sc h24 v28 (22 : Int32)) (fun v30 => zo_b (zq_wrX 1 h24 v26 (((23 : Int32) + ((2 : Int32) * v30)) + (1 : Int32)) a2) (fun h32 => zo_b (zo_gR h32 10 a0 25) (fun v34 => zo_b (zq_rdI sc h32 v34 (22 : Int32)) (fun v36 => zo_b (zq_wrX 1 h32 v34 (22 : Int32) (v36 + (1 : Int32))) (fun h38 => some ((1 : Int32), h38))))))))))))))))))))
set_option maxRecDepth 4000 in
theorem zm_tell_ok (sc : zX) (d : Nat) (hd : 2 ≤ d) {a0 : Nat} {a1 : Int32} {a2 : Int32} {h : zH} {ro_ : Int32} {ho_ : zH} (hf : zm_tell sc a0 a1 a2 h = some (ro_, ho_)) : zq_wm sc d 247 [.ref a0, .int a1, .int a2] h (some (.int ro_), ho_) := by
  unfold zm_tell at hf
  obtain ⟨d, rfl⟩ : ∃ d', d = d' + 1 := ⟨d - 1, by omega⟩
  have hd : 1 ≤ d := by omega
  show zq_wp sc (d + 1) 247 0 [some (.ref a0), some (.int a1), some (.int a2)] [] h _
  refine zq_wg 2 (pc' := 2) (lv' := [some (.ref a0), some (.int a1), some (.int a2)]) (st' := [.int (0 : Int32), .ref a0]) (h' := h) rfl ?_
  obtain ⟨h1, e2, hf⟩ := zo_b_s hf
  refine zr_pI rfl rfl (by decide) rfl rfl e2 ?_
  refine zq_wg 2 (pc' := 7) (lv' := [some (.ref a0), some (.int a1), some (.int a2)]) (st' := [.int a1, .ref a0]) (h' := h1) rfl ?_
  obtain ⟨e6, v4, h3, e5, hf⟩ := zo_v_s hf
  refine zr_cv zq_m198 [.int a1] [] rfl rfl rfl rfl rfl (Nat.le_of_ble_eq_true rfl) (Nat.le_of_ble_eq_true rfl) e6 (zm_isMan_ok sc d (by omega) e5) ?_
  refine zq_wg 0 (pc' := 10) (lv' := [some (.ref a0), some (.int a1), some (.int a2)]) (st' := [.int v4]) (h' := h3) rfl ?_
  refine zr_if (v4 = 0) 33 13 (st' := []) rfl rfl (fun b7 => ?_) (fun b7 => ?_)
  · have hf := zo_t hf b7
    refine zq_wg 1 (pc' := 34) (lv' := [some (.ref a0), some (.int a1), some (.int a2)]) (st' := [.int (0 : Int32)]) (h' := h3) rfl ?_
    exact zr_ri rfl rfl rfl hf
  · have hf := zo_f hf b7
    refine zq_wg 2 (pc' := 15) (lv' := [some (.ref a0), some (.int a1), some (.int a2)]) (st' := [.int a2, .ref a0]) (h' := h3) rfl ?_
    obtain ⟨e11, v9, h8, e10, hf⟩ := zo_v_s hf
    refine zr_cv zq_m188 [.int a2] [] rfl rfl rfl rfl rfl (Nat.le_of_ble_eq_true rfl) (Nat.le_of_ble_eq_true rfl) e11 (zm_isPost_ok sc d (by omega) e10) ?_
    refine zq_wg 0 (pc' := 18) (lv' := [some (.ref a0), some (.int a1), some (.int a2)]) (st' := [.int v9]) (h' := h8) rfl ?_
    refine zr_if (v9 = 0) 33 21 (st' := []) rfl rfl (fun b12 => ?_) (fun b12 => ?_)
    · have hf := zo_t hf b12
      refine zq_wg 1 (pc' := 34) (lv' := [some (.ref a0), some (.int a1), some (.int a2)]) (st' := [.int (0 : Int32)]) (h' := h8) rfl ?_
      exact zr_ri rfl rfl rfl hf
    · have hf := zo_f hf b12
      refine zq_wg 1 (pc' := 22) (lv' := [some (.ref a0), some (.int a1), some (.int a2)]) (st' := [.ref a0]) (h' := h8) rfl ?_
      obtain ⟨v13, e14, hf⟩ := zo_b_s hf
      refine zr_gR rfl rfl (by decide) rfl e14 ?_
      refine zq_wg 1 (pc' := 27) (lv' := [some (.ref a0), some (.int a1), some (.int a2)]) (st' := [.int (22 : Int32), .ref v13]) (h' := h8) rfl ?_
      obtain ⟨v15, e16, hf⟩ := zo_b_s hf
      refine zr_iald rfl e16 ?_
      refine zq_wg 1 (pc' := 30) (lv' := [some (.ref a0), some (.int a1), some (.int a2)]) (st' := [.int (8 : Int32), .int v15]) (h' := h8) rfl ?_
      refine zr_if (v15 = (8 : Int32)) 33 35 (st' := []) rfl rfl (fun b17 => ?_) (fun b17 => ?_)
      · have hf := zo_t hf b17
        refine zq_wg 1 (pc' := 34) (lv' := [some (.ref a0), some (.int a1), some (.int a2)]) (st' := [.int (0 : Int32)]) (h' := h8) rfl ?_
        exact zr_ri rfl rfl rfl hf
      · have hf := zo_f hf b17
        refine zq_wg 1 (pc' := 36) (lv' := [some (.ref a0), some (.int a1), some (.int a2)]) (st' := [.ref a0]) (h' := h8) rfl ?_
        obtain ⟨v18, e19, hf⟩ := zo_b_s hf
        refine zr_gR rfl rfl (by decide) rfl e19 ?_
        refine zq_wg 3 (pc' := 43) (lv' := [some (.ref a0), some (.int a1), some (.int a2)]) (st' := [.ref a0, .int (2 : Int32), .int (23 : Int32), .ref v18]) (h' := h8) rfl ?_
        obtain ⟨v20, e21, hf⟩ := zo_b_s hf
        refine zr_gR rfl rfl (by decide) rfl e21 ?_
        refine zq_wg 1 (pc' := 48) (lv' := [some (.ref a0), some (.int a1), some (.int a2)]) (st' := [.int (22 : Int32), .ref v20, .int (2 : Int32), .int (23 : Int32), .ref v18]) (h' := h8) rfl ?_
        obtain ⟨v22, e23, hf⟩ := zo_b_s hf
        refine zr_iald rfl e23 ?_
        refine zq_wg 3 (pc' := 52) (lv' := [some (.ref a0), some (.int a1), some (.int a2)]) (st' := [.int a1, .int ((23 : Int32) + ((2 : Int32) * v22)), .ref v18]) (h' := h8) rfl ?_
        obtain ⟨h24, e25, hf⟩ := zo_b_s hf
        refine zr_iast rfl e25 ?_
        refine zq_wg 1 (pc' := 54) (lv' := [some (.ref a0), some (.int a1), some (.int a2)]) (st' := [.ref a0]) (h' := h24) rfl ?_
        obtain ⟨v26, e27, hf⟩ := zo_b_s hf
        refine zr_gR rfl rfl (by decide) rfl e27 ?_
        refine zq_wg 3 (pc' := 61) (lv' := [some (.ref a0), some (.int a1), some (.int a2)]) (st' := [.ref a0, .int (2 : Int32), .int (23 : Int32), .ref v26]) (h' := h24) rfl ?_
        obtain ⟨v28, e29, hf⟩ := zo_b_s hf
        refine zr_gR rfl rfl (by decide) rfl e29 ?_
        refine zq_wg 1 (pc' := 66) (lv' := [some (.ref a0), some (.int a1), some (.int a2)]) (st' := [.int (22 : Int32), .ref v28, .int (2 : Int32), .int (23 : Int32), .ref v26]) (h' := h24) rfl ?_
        obtain ⟨v30, e31, hf⟩ := zo_b_s hf
        refine zr_iald rfl e31 ?_
        refine zq_wg 5 (pc' := 72) (lv' := [some (.ref a0), some (.int a1), some (.int a2)]) (st' := [.int a2, .int (((23 : Int32) + ((2 : Int32) * v30)) + (1 : Int32)), .ref v26]) (h' := h24) rfl ?_
        obtain ⟨h32, e33, hf⟩ := zo_b_s hf
        refine zr_iast rfl e33 ?_
        refine zq_wg 1 (pc' := 74) (lv' := [some (.ref a0), some (.int a1), some (.int a2)]) (st' := [.ref a0]) (h' := h32) rfl ?_
        obtain ⟨v34, e35, hf⟩ := zo_b_s hf
        refine zr_gR rfl rfl (by decide) rfl e35 ?_
        refine zq_wg 2 (pc' := 80) (lv' := [some (.ref a0), some (.int a1), some (.int a2)]) (st' := [.int (22 : Int32), .ref v34, .int (22 : Int32), .ref v34]) (h' := h32) rfl ?_
        obtain ⟨v36, e37, hf⟩ := zo_b_s hf
        refine zr_iald rfl e37 ?_
        refine zq_wg 2 (pc' := 83) (lv' := [some (.ref a0), some (.int a1), some (.int a2)]) (st' := [.int (v36 + (1 : Int32)), .int (22 : Int32), .ref v34]) (h' := h32) rfl ?_
        obtain ⟨h38, e39, hf⟩ := zo_b_s hf
        refine zr_iast rfl e39 ?_
        refine zq_wg 1 (pc' := 85) (lv' := [some (.ref a0), some (.int a1), some (.int a2)]) (st' := [.int (1 : Int32)]) (h' := h38) rfl ?_
        exact zr_ri rfl rfl rfl hf
set_option maxRecDepth 4000 in
def zm_toldOf_l5 (sc : zX) : Nat → Nat → Int32 → Int32 → Int32 → Int32 → zH → Option (Int32 × zH)
  | 0, _, _, _, _, _, _ => none
  | n + 1, y1, y2, y3, y4, y5, h6 => zo_b (zo_gR h6 10 y1 25) (fun v7 => zo_b (zq_rdI sc h6 v7 (22 : Int32)) (fun v9 => if v9 ≤ y5 then (some (y4, h6)) else (zo_b (zo_gR h6 10 y1 25) (fun v12 => zo_b (zq_rdI sc h6 v12 ((23 : Int32) + ((2 : Int32) * y5))) (fun v14 => zo_l (fun (x16 : Nat) (x17 : Int32) (x18 : Int32) (x19 : Int32) (x20 : Int32) (x21 : Int32) (h22 : zH) => zm_toldOf_l5 sc n x16 x17 x18 (x20 + x21) (x19 + (1 : Int32)) h22 ) (fun j62_22 => zo_l (fun (x23 : Nat) (x24 : Int32) (x25 : Int32) (x26 : Int32) (x27 : Int32) (h28 : zH) => j62_22 x23 x24 x25 x26 x27 (0 : Int32) h28) (fun j61_28 => if v14 = y2 then (zo_b (zo_gR h6 10 y1 25) (fun v30 => zo_b (zq_rdI sc h6 v30 (((23 : Int32) + ((2 : Int32) * y5)) + (1 : Int32))) (fun v32 => zo_v h6 y1 10 (zm_postOf sc y1 v32 (1 : Int32) h6) (fun v35 h34 => if v35 < y3 then (j61_28 y1 y2 y3 y5 y4 h34) else (j62_22 y1 y2 y3 y5 y4 (1 : Int32) h34))))) else (j61_28 y1 y2 y3 y5 y4 h6))))))))
set_option maxRecDepth 4000 in
def zm_toldOf (sc : zX) (a0 : Nat) (a1 : Int32) (a2 : Int32) (h : zH) : Option (Int32 × zH) := zm_toldOf_l5 sc zo_F a0 a1 a2 (0 : Int32) (0 : Int32) h 
set_option maxRecDepth 4000 in
theorem zm_toldOf_l5_ok (sc : zX) (d : Nat) (hd : 0 ≤ d) : ∀ (n : Nat) (y1 : Nat) (y2 : Int32) (y3 : Int32) (y4 : Int32) (y5 : Int32) (h6 : zH) (ro_ : Int32) (ho_ : zH),  zm_toldOf_l5 sc n y1 y2 y3 y4 y5 h6  = some (ro_, ho_) → zq_wp sc (d + 1) 249 5 [some (.ref y1), some (.int y2), some (.int y3), some (.int y4), some (.int y5)] [] h6 (some (.int ro_), ho_) := by
  intro n
  induction n with
  | zero => intro y1 y2 y3 y4 y5 h6 ro_ ho_ hf; cases hf
  | succ n ih =>
    intro y1 y2 y3 y4 y5 h6 ro_ ho_ hf
    refine zq_wg 2 (pc' := 8) (lv' := [some (.ref y1), some (.int y2), some (.int y3), some (.int y4), some (.int y5)]) (st' := [.ref y1, .int y5]) (h' := h6) rfl ?_
    obtain ⟨v7, e8, hf⟩ := zo_b_s hf
    refine zr_gR rfl rfl (by decide) rfl e8 ?_
    refine zq_wg 1 (pc' := 13) (lv' := [some (.ref y1), some (.int y2), some (.int y3), some (.int y4), some (.int y5)]) (st' := [.int (22 : Int32), .ref v7, .int y5]) (h' := h6) rfl ?_
    obtain ⟨v9, e10, hf⟩ := zo_b_s hf
    refine zr_iald rfl e10 ?_
    refine zr_if (v9 ≤ y5) 70 17 (st' := []) rfl rfl (fun b11 => ?_) (fun b11 => ?_)
    · have hf := zo_t hf b11
      refine zq_wg 1 (pc' := 71) (lv' := [some (.ref y1), some (.int y2), some (.int y3), some (.int y4), some (.int y5)]) (st' := [.int y4]) (h' := h6) rfl ?_
      exact zr_ri rfl rfl rfl hf
    · have hf := zo_f hf b11
      refine zq_wg 2 (pc' := 19) (lv' := [some (.ref y1), some (.int y2), some (.int y3), some (.int y4), some (.int y5)]) (st' := [.ref y1, .int y4]) (h' := h6) rfl ?_
      obtain ⟨v12, e13, hf⟩ := zo_b_s hf
      refine zr_gR rfl rfl (by decide) rfl e13 ?_
      refine zq_wg 5 (pc' := 29) (lv' := [some (.ref y1), some (.int y2), some (.int y3), some (.int y4), some (.int y5)]) (st' := [.int ((23 : Int32) + ((2 : Int32) * y5)), .ref v12, .int y4]) (h' := h6) rfl ?_
      obtain ⟨v14, e15, hf⟩ := zo_b_s hf
      refine zr_iald rfl e15 ?_
      refine zq_wg 1 (pc' := 31) (lv' := [some (.ref y1), some (.int y2), some (.int y3), some (.int y4), some (.int y5)]) (st' := [.int y2, .int v14, .int y4]) (h' := h6) rfl ?_
      obtain ⟨j62_22, hjj62_22, hf⟩ := zo_lj hf
      have kj62_22 : ∀ (x16 : Nat) (x17 : Int32) (x18 : Int32) (x19 : Int32) (x20 : Int32) (x21 : Int32) (h22 : zH), j62_22 x16 x17 x18 x19 x20 x21 h22 = some (ro_, ho_) → zq_wp sc (d + 1) 249 62 [some (.ref x16), some (.int x17), some (.int x18), none, some (.int x19)] [.int x21, .int x20] h22 (some (.int ro_), ho_) := by
        intro x16 x17 x18 x19 x20 x21 h22 hf
        rw [hjj62_22] at hf
        refine zq_wg 4 (pc' := 5) (lv' := [some (.ref x16), some (.int x17), some (.int x18), some (.int (x20 + x21)), some (.int (x19 + (1 : Int32)))]) (st' := []) (h' := h22) rfl ?_
        exact ih x16 x17 x18 (x20 + x21) (x19 + (1 : Int32)) h22 _ _ hf
      obtain ⟨j61_28, hjj61_28, hf⟩ := zo_lj hf
      have kj61_28 : ∀ (x23 : Nat) (x24 : Int32) (x25 : Int32) (x26 : Int32) (x27 : Int32) (h28 : zH), j61_28 x23 x24 x25 x26 x27 h28 = some (ro_, ho_) → zq_wp sc (d + 1) 249 61 [some (.ref x23), some (.int x24), some (.int x25), none, some (.int x26)] [.int x27] h28 (some (.int ro_), ho_) := by
        intro x23 x24 x25 x26 x27 h28 hf
        rw [hjj61_28] at hf
        refine zq_wg 1 (pc' := 62) (lv' := [some (.ref x23), some (.int x24), some (.int x25), none, some (.int x26)]) (st' := [.int (0 : Int32), .int x27]) (h' := h28) rfl ?_
        exact kj62_22 x23 x24 x25 x26 x27 (0 : Int32) h28 hf
      refine zr_if (v14 = y2) 34 61 (st' := [.int y4]) rfl rfl (fun b29 => ?_) (fun b29 => ?_)
      · have hf := zo_t hf b29
        refine zq_wg 2 (pc' := 36) (lv' := [some (.ref y1), some (.int y2), some (.int y3), some (.int y4), some (.int y5)]) (st' := [.ref y1, .ref y1, .int y4]) (h' := h6) rfl ?_
        obtain ⟨v30, e31, hf⟩ := zo_b_s hf
        refine zr_gR rfl rfl (by decide) rfl e31 ?_
        refine zq_wg 7 (pc' := 48) (lv' := [some (.ref y1), some (.int y2), some (.int y3), some (.int y4), some (.int y5)]) (st' := [.int (((23 : Int32) + ((2 : Int32) * y5)) + (1 : Int32)), .ref v30, .ref y1, .int y4]) (h' := h6) rfl ?_
        obtain ⟨v32, e33, hf⟩ := zo_b_s hf
        refine zr_iald rfl e33 ?_
        refine zq_wg 1 (pc' := 50) (lv' := [some (.ref y1), some (.int y2), some (.int y3), some (.int y4), some (.int y5)]) (st' := [.int (1 : Int32), .int v32, .ref y1, .int y4]) (h' := h6) rfl ?_
        obtain ⟨e37, v35, h34, e36, hf⟩ := zo_v_s hf
        refine zr_cv zq_m193 [.int v32, .int (1 : Int32)] [.int y4] rfl rfl rfl rfl rfl (Nat.le_of_ble_eq_true rfl) (Nat.le_of_ble_eq_true rfl) e37 (zm_postOf_ok sc d (by omega) e36) ?_
        refine zq_wg 0 (pc' := 53) (lv' := [some (.ref y1), some (.int y2), some (.int y3), some (.int y4), some (.int y5)]) (st' := [.int v35, .int y4]) (h' := h34) rfl ?_
        refine zq_wg 1 (pc' := 54) (lv' := [some (.ref y1), some (.int y2), some (.int y3), some (.int y4), some (.int y5)]) (st' := [.int y3, .int v35, .int y4]) (h' := h34) rfl ?_
        refine zr_if (v35 < y3) 61 57 (st' := [.int y4]) rfl rfl (fun b38 => ?_) (fun b38 => ?_)
        · have hf := zo_t hf b38
          refine zq_fg [some (.ref y1), some (.int y2), some (.int y3), none, some (.int y5)] (zq_lvle_s (zq_lvle_s (zq_lvle_s (zq_lvle_n (zq_lvle_s zq_lvle_nil))))) ?_
          exact kj61_28 y1 y2 y3 y5 y4 h34 hf
        · have hf := zo_f hf b38
          refine zq_wg 2 (pc' := 62) (lv' := [some (.ref y1), some (.int y2), some (.int y3), some (.int y4), some (.int y5)]) (st' := [.int (1 : Int32), .int y4]) (h' := h34) rfl ?_
          refine zq_fg [some (.ref y1), some (.int y2), some (.int y3), none, some (.int y5)] (zq_lvle_s (zq_lvle_s (zq_lvle_s (zq_lvle_n (zq_lvle_s zq_lvle_nil))))) ?_
          exact kj62_22 y1 y2 y3 y5 y4 (1 : Int32) h34 hf
      · have hf := zo_f hf b29
        refine zq_fg [some (.ref y1), some (.int y2), some (.int y3), none, some (.int y5)] (zq_lvle_s (zq_lvle_s (zq_lvle_s (zq_lvle_n (zq_lvle_s zq_lvle_nil))))) ?_
        exact kj61_28 y1 y2 y3 y5 y4 h6 hf
set_option maxRecDepth 4000 in
theorem zm_toldOf_ok (sc : zX) (d : Nat) (hd : 1 ≤ d) {a0 : Nat} {a1 : Int32} {a2 : Int32} {h : zH} {ro_ : Int32} {ho_ : zH} (hf : zm_toldOf sc a0 a1 a2 h = some (ro_, ho_)) : zq_wm sc d 249 [.ref a0, .int a1, .int a2] h (some (.int ro_), ho_) := by
  unfold zm_toldOf at hf
  obtain ⟨d, rfl⟩ : ∃ d', d = d' + 1 := ⟨d - 1, by omega⟩
  have hd : 0 ≤ d := by omega
  show zq_wp sc (d + 1) 249 0 [some (.ref a0), some (.int a1), some (.int a2), none, none] [] h _
  refine zq_wg 4 (pc' := 5) (lv' := [some (.ref a0), some (.int a1), some (.int a2), some (.int (0 : Int32)), some (.int (0 : Int32))]) (st' := []) (h' := h) rfl ?_
  refine zm_toldOf_l5_ok sc d hd zo_F a0 a1 a2 (0 : Int32) (0 : Int32) h _ _ hf
set_option maxRecDepth 4000 in
def zm_millionths_l14 (sc : zX) : Nat → Int64 → Int32 → Int64 → Int32 → zH → Option (Int32 × zH)
  | 0, _, _, _, _, _ => none
  | n + 1, y5, y6, y7, y8, h9 => if (6 : Int32) ≤ y8 then (some (y6, h9)) else (zo_b (zo_dvL (y7 * (10 : Int64)) y5) (fun v11 => zo_b (zo_rmL (y7 * (10 : Int64)) y5) (fun v13 => zm_millionths_l14 sc n y5 (((10 : Int32) * y6) + v11.toInt32) v13 (y8 + (1 : Int32)) h9 )))
set_option maxRecDepth 4000 in
def zm_millionths (sc : zX) (a0 : Int64) (a1 : Int64) (h : zH) : Option (Int32 × zH) := zo_b (zo_dvL a0 a1) (fun v1 => zo_b (zo_rmL a0 a1) (fun v3 => zm_millionths_l14 sc zo_F a1 v1.toInt32 v3 (0 : Int32) h ))
set_option maxRecDepth 4000 in
theorem zm_millionths_l14_ok (sc : zX) (d : Nat) : ∀ (n : Nat) (y5 : Int64) (y6 : Int32) (y7 : Int64) (y8 : Int32) (h9 : zH) (ro_ : Int32) (ho_ : zH),  zm_millionths_l14 sc n y5 y6 y7 y8 h9  = some (ro_, ho_) → zq_wp sc d 251 14 [none, none, some (.long y5), none, some (.int y6), some (.long y7), none, some (.int y8)] [] h9 (some (.int ro_), ho_) := by
  intro n
  induction n with
  | zero => intro y5 y6 y7 y8 h9 ro_ ho_ hf; cases hf
  | succ n ih =>
    intro y5 y6 y7 y8 h9 ro_ ho_ hf
    refine zq_wg 2 (pc' := 18) (lv' := [none, none, some (.long y5), none, some (.int y6), some (.long y7), none, some (.int y8)]) (st' := [.int (6 : Int32), .int y8]) (h' := h9) rfl ?_
    refine zr_if ((6 : Int32) ≤ y8) 54 21 (st' := []) rfl rfl (fun b10 => ?_) (fun b10 => ?_)
    · have hf := zo_t hf b10
      refine zq_wg 1 (pc' := 56) (lv' := [none, none, some (.long y5), none, some (.int y6), some (.long y7), none, some (.int y8)]) (st' := [.int y6]) (h' := h9) rfl ?_
      exact zr_ri rfl rfl rfl hf
    · have hf := zo_f hf b10
      refine zq_wg 9 (pc' := 37) (lv' := [none, none, some (.long y5), none, some (.int y6), some (.long (y7 * (10 : Int64))), none, some (.int y8)]) (st' := [.long y5, .long (y7 * (10 : Int64)), .int ((10 : Int32) * y6)]) (h' := h9) rfl ?_
      obtain ⟨v11, e12, hf⟩ := zo_b_s hf
      refine zr_ldiv rfl e12 ?_
      refine zq_wg 5 (pc' := 45) (lv' := [none, none, some (.long y5), none, some (.int (((10 : Int32) * y6) + v11.toInt32)), some (.long (y7 * (10 : Int64))), none, some (.int y8)]) (st' := [.long y5, .long (y7 * (10 : Int64))]) (h' := h9) rfl ?_
      obtain ⟨v13, e14, hf⟩ := zo_b_s hf
      refine zr_lrem rfl e14 ?_
      refine zq_wg 3 (pc' := 14) (lv' := [none, none, some (.long y5), none, some (.int (((10 : Int32) * y6) + v11.toInt32)), some (.long v13), none, some (.int (y8 + (1 : Int32)))]) (st' := []) (h' := h9) rfl ?_
      exact ih y5 (((10 : Int32) * y6) + v11.toInt32) v13 (y8 + (1 : Int32)) h9 _ _ hf
set_option maxRecDepth 4000 in
theorem zm_millionths_ok (sc : zX) (d : Nat) (hd : 0 ≤ d) {a0 : Int64} {a1 : Int64} {h : zH} {ro_ : Int32} {ho_ : zH} (hf : zm_millionths sc a0 a1 h = some (ro_, ho_)) : zq_wm sc d 251 [.long a0, .long a1] h (some (.int ro_), ho_) := by
  unfold zm_millionths at hf
  show zq_wp sc d 251 0 [some (.long a0), none, some (.long a1), none, none, none, none, none] [] h _
  refine zq_wg 2 (pc' := 2) (lv' := [some (.long a0), none, some (.long a1), none, none, none, none, none]) (st' := [.long a1, .long a0]) (h' := h) rfl ?_
  obtain ⟨v1, e2, hf⟩ := zo_b_s hf
  refine zr_ldiv rfl e2 ?_
  refine zq_wg 4 (pc' := 8) (lv' := [some (.long a0), none, some (.long a1), none, some (.int v1.toInt32), none, none, none]) (st' := [.long a1, .long a0]) (h' := h) rfl ?_
  obtain ⟨v3, e4, hf⟩ := zo_b_s hf
  refine zr_lrem rfl e4 ?_
  refine zq_wg 3 (pc' := 14) (lv' := [some (.long a0), none, some (.long a1), none, some (.int v1.toInt32), some (.long v3), none, some (.int (0 : Int32))]) (st' := []) (h' := h) rfl ?_
  refine zq_fg [none, none, some (.long a1), none, some (.int v1.toInt32), some (.long v3), none, some (.int (0 : Int32))] (zq_lvle_n (zq_lvle_s (zq_lvle_s (zq_lvle_s (zq_lvle_s (zq_lvle_s (zq_lvle_s (zq_lvle_s zq_lvle_nil)))))))) ?_
  refine zm_millionths_l14_ok sc d zo_F a1 v1.toInt32 v3 (0 : Int32) h _ _ hf
set_option maxRecDepth 4000 in
def zm_fairBy_l6 (sc : zX) : Nat → Nat → Int32 → Int32 → Int32 → Int32 → Int32 → zH → (Nat → Int32 → Int32 → Int32 → zH → Option (Int32 × zH)) → Option (Int32 × zH)
  | 0, _, _, _, _, _, _, _, _ => none
  | n + 1, y1, y2, y3, y4, y5, y6, h7, k42 => zo_v h7 y1 10 (zm_fewer sc y1 h7) (fun v9 h8 => if v9 ≤ y6 then (k42 y1 y3 y4 y5 h8) else (zo_v h8 y1 10 (zm_postOf sc y1 y6 (1 : Int32) h8) (fun v14 h13 => zo_l (if v14 < y2 then (0 : Int32) else (1 : Int32)) (fun (x17 : Int32) => zm_fairBy_l6 sc n y1 y2 y3 y4 (y5 + x17) (y6 + (1 : Int32)) h13 k42))))
set_option maxRecDepth 4000 in
def zm_fairBy_l51 (sc : zX) : Nat → Nat → Int32 → Int32 → Int32 → Int64 → Int64 → Int32 → zH → (Nat → Int32 → Int32 → Int32 → Int64 → Int64 → zH → Option (Int32 × zH)) → Option (Int32 × zH)
  | 0, _, _, _, _, _, _, _, _, _ => none
  | n + 1, y24, y25, y26, y27, y28, y29, y30, h31, k73 => if y25 ≤ y30 then (k73 y24 y25 y26 y27 y28 y29 h31) else (zo_v h31 y24 10 (zm_men sc y24 h31) (fun v34 h33 => zm_fairBy_l51 sc n y24 y25 y26 y27 y28 (y29 * v34.toInt64) (y30 + (1 : Int32)) h33 k73))
set_option maxRecDepth 4000 in
def zm_fairBy_l88 (sc : zX) : Nat → Nat → Int32 → Int32 → Int64 → Int64 → Int32 → Int64 → Int32 → zH → (Nat → Int32 → Int32 → Int64 → Int64 → Int32 → Int64 → zH → Option (Int32 × zH)) → Option (Int32 × zH)
  | 0, _, _, _, _, _, _, _, _, _, _ => none
  | n + 1, y52, y53, y54, y55, y56, y57, y58, y59, h60, k125 => if y53 ≤ y59 then (k125 y52 y53 y54 y55 y56 y57 y58 h60) else (zo_l (fun (x62 : Nat) (x63 : Int32) (x64 : Int32) (x65 : Int64) (x66 : Int64) (x67 : Int32) (x68 : Int32) (x69 : Int64) (x70 : Int32) (h71 : zH) => zm_fairBy_l88 sc n x62 x63 x64 x65 x66 x67 (x69 * x70.toInt64) (x68 + (1 : Int32)) h71 k125) (fun j115_71 => if y57 ≤ y59 then (zo_v h60 y52 10 (zm_men sc y52 h60) (fun v74 h73 => j115_71 y52 y53 y54 y55 y56 y57 y59 y58 (v74 - y54) h73)) else (j115_71 y52 y53 y54 y55 y56 y57 y59 y58 y54 h60)))
set_option maxRecDepth 4000 in
def zm_fairBy_l128 (sc : zX) : Nat → Nat → Int32 → Int32 → Int64 → Int64 → Int32 → Int64 → Int32 → zH → (Nat → Int32 → Int32 → Int64 → Int64 → Int32 → Int64 → zH → Option (Int32 × zH)) → Option (Int32 × zH)
  | 0, _, _, _, _, _, _, _, _, _, _ => none
  | n + 1, y85, y86, y87, y88, y89, y90, y91, y92, h93, k157 => if y90 ≤ y92 then (k157 y85 y86 y87 y88 y89 y90 y91 h93) else (zo_b (zo_dvL (y91 * (y86 - y92).toInt64) ((y92 + (1 : Int32)).toInt64)) (fun v95 => zm_fairBy_l128 sc n y85 y86 y87 y88 y89 y90 v95 (y92 + (1 : Int32)) h93 k157))
set_option maxRecDepth 4000 in
def zm_fairBy_l76 (sc : zX) : Nat → Nat → Int32 → Int32 → Int64 → Int64 → Int32 → zH → (Int64 → Int64 → zH → Option (Int32 × zH)) → Option (Int32 × zH)
  | 0, _, _, _, _, _, _, _, _ => none
  | n + 1, y44, y45, y46, y47, y48, y49, h50, k170 => if y45 < y49 then (k170 y47 y48 h50) else (zm_fairBy_l88 sc zo_F y44 y45 y46 y47 y48 y49 (1 : Int64) (0 : Int32) h50 (fun (x77 : Nat) (x78 : Int32) (x79 : Int32) (x80 : Int64) (x81 : Int64) (x82 : Int32) (x83 : Int64) (h84 : zH) => zm_fairBy_l128 sc zo_F x77 x78 x79 x80 x81 x82 x83 (0 : Int32) h84 (fun (x97 : Nat) (x98 : Int32) (x99 : Int32) (x100 : Int64) (x101 : Int64) (x102 : Int32) (x103 : Int64) (h104 : zH) => zm_fairBy_l76 sc n x97 x98 x99 (x100 + x103) x101 (x102 + (1 : Int32)) h104 k170)))
set_option maxRecDepth 4000 in
def zm_fairBy (sc : zX) (a0 : Nat) (a1 : Int32) (a2 : Int32) (a3 : Int32) (h : zH) : Option (Int32 × zH) := zm_fairBy_l6 sc zo_F a0 a1 a2 a3 (0 : Int32) (0 : Int32) h (fun (x19 : Nat) (x20 : Int32) (x21 : Int32) (x22 : Int32) (h23 : zH) => zm_fairBy_l51 sc zo_F x19 x20 x21 x22 (0 : Int64) (1 : Int64) (0 : Int32) h23 (fun (x37 : Nat) (x38 : Int32) (x39 : Int32) (x40 : Int32) (x41 : Int64) (x42 : Int64) (h43 : zH) => zm_fairBy_l76 sc zo_F x37 x38 x40 x41 x42 x39 h43 (fun (x105 : Int64) (x106 : Int64) (h107 : zH) => zo_c (zm_millionths sc x105 x106 h107) (fun v109 h108 => some (v109, h108)))))
set_option maxRecDepth 4000 in
theorem zm_fairBy_l6_ok (sc : zX) (d : Nat) (hd : 1 ≤ d) : ∀ (n : Nat) (y1 : Nat) (y2 : Int32) (y3 : Int32) (y4 : Int32) (y5 : Int32) (y6 : Int32) (h7 : zH) (k42 : Nat → Int32 → Int32 → Int32 → zH → Option (Int32 × zH)) (ro_ : Int32) (ho_ : zH), (∀ (z0 : Nat) (z1 : Int32) (z2 : Int32) (z3 : Int32) (hz : zH), k42 z0 z1 z2 z3 hz = some (ro_, ho_) → zq_wp sc (d + 1) 250 42 [some (.ref z0), none, some (.int z1), some (.int z2), some (.int z3), none, none, none, none, none, none, none, none] [] hz (some (.int ro_), ho_)) → zm_fairBy_l6 sc n y1 y2 y3 y4 y5 y6 h7 k42 = some (ro_, ho_) → zq_wp sc (d + 1) 250 6 [some (.ref y1), some (.int y2), some (.int y3), some (.int y4), some (.int y5), some (.int y6), none, none, none, none, none, none, none] [] h7 (some (.int ro_), ho_) := by
  intro n
  induction n with
  | zero => intro y1 y2 y3 y4 y5 y6 h7 k42 ro_ ho_ hk42 hf; cases hf
  | succ n ih =>
    intro y1 y2 y3 y4 y5 y6 h7 k42 ro_ ho_ hk42 hf
    refine zq_wg 2 (pc' := 9) (lv' := [some (.ref y1), some (.int y2), some (.int y3), some (.int y4), some (.int y5), some (.int y6), none, none, none, none, none, none, none]) (st' := [.ref y1, .int y6]) (h' := h7) rfl ?_
    obtain ⟨e11, v9, h8, e10, hf⟩ := zo_v_s hf
    refine zr_cv zq_m228 [] [.int y6] rfl rfl rfl rfl rfl (Nat.le_of_ble_eq_true rfl) (Nat.le_of_ble_eq_true rfl) e11 (zm_fewer_ok sc d (by omega) e10) ?_
    refine zq_wg 0 (pc' := 12) (lv' := [some (.ref y1), some (.int y2), some (.int y3), some (.int y4), some (.int y5), some (.int y6), none, none, none, none, none, none, none]) (st' := [.int v9, .int y6]) (h' := h8) rfl ?_
    refine zr_if (v9 ≤ y6) 42 15 (st' := []) rfl rfl (fun b12 => ?_) (fun b12 => ?_)
    · have hf := zo_t hf b12
      refine zq_fg [some (.ref y1), none, some (.int y3), some (.int y4), some (.int y5), none, none, none, none, none, none, none, none] (zq_lvle_s (zq_lvle_n (zq_lvle_s (zq_lvle_s (zq_lvle_s (zq_lvle_n (zq_lvle_s (zq_lvle_s (zq_lvle_s (zq_lvle_s (zq_lvle_s (zq_lvle_s (zq_lvle_s zq_lvle_nil))))))))))))) ?_
      exact hk42 y1 y3 y4 y5 h8 hf
    · have hf := zo_f hf b12
      refine zq_wg 4 (pc' := 21) (lv' := [some (.ref y1), some (.int y2), some (.int y3), some (.int y4), some (.int y5), some (.int y6), none, none, none, none, none, none, none]) (st' := [.int (1 : Int32), .int y6, .ref y1, .int y5]) (h' := h8) rfl ?_
      obtain ⟨e16, v14, h13, e15, hf⟩ := zo_v_s hf
      refine zr_cv zq_m193 [.int y6, .int (1 : Int32)] [.int y5] rfl rfl rfl rfl rfl (Nat.le_of_ble_eq_true rfl) (Nat.le_of_ble_eq_true rfl) e16 (zm_postOf_ok sc d (by omega) e15) ?_
      refine zq_wg 0 (pc' := 24) (lv' := [some (.ref y1), some (.int y2), some (.int y3), some (.int y4), some (.int y5), some (.int y6), none, none, none, none, none, none, none]) (st' := [.int v14, .int y5]) (h' := h13) rfl ?_
      refine zq_wg 1 (pc' := 25) (lv' := [some (.ref y1), some (.int y2), some (.int y3), some (.int y4), some (.int y5), some (.int y6), none, none, none, none, none, none, none]) (st' := [.int y2, .int v14, .int y5]) (h' := h13) rfl ?_
      obtain ⟨g33_17, hg33_17, hf⟩ := zo_lx hf
      have kg33_17 : ∀ (x17 : Int32), g33_17 x17 = some (ro_, ho_) → zq_wp sc (d + 1) 250 33 [some (.ref y1), some (.int y2), some (.int y3), some (.int y4), some (.int y5), some (.int y6), none, none, none, none, none, none, none] [.int x17, .int y5] h13 (some (.int ro_), ho_) := by
        intro x17 hf
        rw [hg33_17] at hf
        refine zq_wg 4 (pc' := 6) (lv' := [some (.ref y1), some (.int y2), some (.int y3), some (.int y4), some (.int (y5 + x17)), some (.int (y6 + (1 : Int32))), none, none, none, none, none, none, none]) (st' := []) (h' := h13) rfl ?_
        exact ih y1 y2 y3 y4 (y5 + x17) (y6 + (1 : Int32)) h13 _ _ _ hk42 hf
      refine zr_if (v14 < y2) 32 28 (st' := [.int y5]) rfl rfl (fun b18 => ?_) (fun b18 => ?_)
      · have hf := zo_lt hf b18
        refine zq_wg 1 (pc' := 33) (lv' := [some (.ref y1), some (.int y2), some (.int y3), some (.int y4), some (.int y5), some (.int y6), none, none, none, none, none, none, none]) (st' := [.int (0 : Int32), .int y5]) (h' := h13) rfl ?_
        exact kg33_17 _ hf
      · have hf := zo_lf hf b18
        refine zq_wg 2 (pc' := 33) (lv' := [some (.ref y1), some (.int y2), some (.int y3), some (.int y4), some (.int y5), some (.int y6), none, none, none, none, none, none, none]) (st' := [.int (1 : Int32), .int y5]) (h' := h13) rfl ?_
        exact kg33_17 _ hf
set_option maxRecDepth 4000 in
theorem zm_fairBy_l51_ok (sc : zX) (d : Nat) (hd : 1 ≤ d) : ∀ (n : Nat) (y24 : Nat) (y25 : Int32) (y26 : Int32) (y27 : Int32) (y28 : Int64) (y29 : Int64) (y30 : Int32) (h31 : zH) (k73 : Nat → Int32 → Int32 → Int32 → Int64 → Int64 → zH → Option (Int32 × zH)) (ro_ : Int32) (ho_ : zH), (∀ (z0 : Nat) (z1 : Int32) (z2 : Int32) (z3 : Int32) (z4 : Int64) (z5 : Int64) (hz : zH), k73 z0 z1 z2 z3 z4 z5 hz = some (ro_, ho_) → zq_wp sc (d + 1) 250 73 [some (.ref z0), none, some (.int z1), some (.int z2), some (.int z3), some (.long z4), none, some (.long z5), none, none, none, none, none] [] hz (some (.int ro_), ho_)) → zm_fairBy_l51 sc n y24 y25 y26 y27 y28 y29 y30 h31 k73 = some (ro_, ho_) → zq_wp sc (d + 1) 250 51 [some (.ref y24), none, some (.int y25), some (.int y26), some (.int y27), some (.long y28), none, some (.long y29), none, some (.int y30), none, none, none] [] h31 (some (.int ro_), ho_) := by
  intro n
  induction n with
  | zero => intro y24 y25 y26 y27 y28 y29 y30 h31 k73 ro_ ho_ hk73 hf; cases hf
  | succ n ih =>
    intro y24 y25 y26 y27 y28 y29 y30 h31 k73 ro_ ho_ hk73 hf
    refine zq_wg 2 (pc' := 54) (lv' := [some (.ref y24), none, some (.int y25), some (.int y26), some (.int y27), some (.long y28), none, some (.long y29), none, some (.int y30), none, none, none]) (st' := [.int y25, .int y30]) (h' := h31) rfl ?_
    refine zr_if (y25 ≤ y30) 73 57 (st' := []) rfl rfl (fun b32 => ?_) (fun b32 => ?_)
    · have hf := zo_t hf b32
      refine zq_fg [some (.ref y24), none, some (.int y25), some (.int y26), some (.int y27), some (.long y28), none, some (.long y29), none, none, none, none, none] (zq_lvle_s (zq_lvle_s (zq_lvle_s (zq_lvle_s (zq_lvle_s (zq_lvle_s (zq_lvle_s (zq_lvle_s (zq_lvle_s (zq_lvle_n (zq_lvle_s (zq_lvle_s (zq_lvle_s zq_lvle_nil))))))))))))) ?_
      exact hk73 y24 y25 y26 y27 y28 y29 h31 hf
    · have hf := zo_f hf b32
      refine zq_wg 2 (pc' := 60) (lv' := [some (.ref y24), none, some (.int y25), some (.int y26), some (.int y27), some (.long y28), none, some (.long y29), none, some (.int y30), none, none, none]) (st' := [.ref y24, .long y29]) (h' := h31) rfl ?_
      obtain ⟨e36, v34, h33, e35, hf⟩ := zo_v_s hf
      refine zr_cv zq_m152 [] [.long y29] rfl rfl rfl rfl rfl (Nat.le_of_ble_eq_true rfl) (Nat.le_of_ble_eq_true rfl) e36 (zm_men_ok sc d (by omega) e35) ?_
      refine zq_wg 0 (pc' := 63) (lv' := [some (.ref y24), none, some (.int y25), some (.int y26), some (.int y27), some (.long y28), none, some (.long y29), none, some (.int y30), none, none, none]) (st' := [.int v34, .long y29]) (h' := h33) rfl ?_
      refine zq_wg 5 (pc' := 51) (lv' := [some (.ref y24), none, some (.int y25), some (.int y26), some (.int y27), some (.long y28), none, some (.long (y29 * v34.toInt64)), none, some (.int (y30 + (1 : Int32))), none, none, none]) (st' := []) (h' := h33) rfl ?_
      exact ih y24 y25 y26 y27 y28 (y29 * v34.toInt64) (y30 + (1 : Int32)) h33 _ _ _ hk73 hf
set_option maxRecDepth 4000 in
theorem zm_fairBy_l88_ok (sc : zX) (d : Nat) (hd : 1 ≤ d) : ∀ (n : Nat) (y52 : Nat) (y53 : Int32) (y54 : Int32) (y55 : Int64) (y56 : Int64) (y57 : Int32) (y58 : Int64) (y59 : Int32) (h60 : zH) (k125 : Nat → Int32 → Int32 → Int64 → Int64 → Int32 → Int64 → zH → Option (Int32 × zH)) (ro_ : Int32) (ho_ : zH), (∀ (z0 : Nat) (z1 : Int32) (z2 : Int32) (z3 : Int64) (z4 : Int64) (z5 : Int32) (z6 : Int64) (hz : zH), k125 z0 z1 z2 z3 z4 z5 z6 hz = some (ro_, ho_) → zq_wp sc (d + 1) 250 125 [some (.ref z0), none, some (.int z1), none, some (.int z2), some (.long z3), none, some (.long z4), none, some (.int z5), some (.long z6), none, none] [] hz (some (.int ro_), ho_)) → zm_fairBy_l88 sc n y52 y53 y54 y55 y56 y57 y58 y59 h60 k125 = some (ro_, ho_) → zq_wp sc (d + 1) 250 88 [some (.ref y52), none, some (.int y53), none, some (.int y54), some (.long y55), none, some (.long y56), none, some (.int y57), some (.long y58), none, some (.int y59)] [] h60 (some (.int ro_), ho_) := by
  intro n
  induction n with
  | zero => intro y52 y53 y54 y55 y56 y57 y58 y59 h60 k125 ro_ ho_ hk125 hf; cases hf
  | succ n ih =>
    intro y52 y53 y54 y55 y56 y57 y58 y59 h60 k125 ro_ ho_ hk125 hf
    refine zq_wg 2 (pc' := 91) (lv' := [some (.ref y52), none, some (.int y53), none, some (.int y54), some (.long y55), none, some (.long y56), none, some (.int y57), some (.long y58), none, some (.int y59)]) (st' := [.int y53, .int y59]) (h' := h60) rfl ?_
    refine zr_if (y53 ≤ y59) 125 94 (st' := []) rfl rfl (fun b61 => ?_) (fun b61 => ?_)
    · have hf := zo_t hf b61
      refine zq_fg [some (.ref y52), none, some (.int y53), none, some (.int y54), some (.long y55), none, some (.long y56), none, some (.int y57), some (.long y58), none, none] (zq_lvle_s (zq_lvle_s (zq_lvle_s (zq_lvle_s (zq_lvle_s (zq_lvle_s (zq_lvle_s (zq_lvle_s (zq_lvle_s (zq_lvle_s (zq_lvle_s (zq_lvle_s (zq_lvle_n zq_lvle_nil))))))))))))) ?_
      exact hk125 y52 y53 y54 y55 y56 y57 y58 h60 hf
    · have hf := zo_f hf b61
      refine zq_wg 3 (pc' := 100) (lv' := [some (.ref y52), none, some (.int y53), none, some (.int y54), some (.long y55), none, some (.long y56), none, some (.int y57), some (.long y58), none, some (.int y59)]) (st' := [.int y57, .int y59, .long y58]) (h' := h60) rfl ?_
      obtain ⟨j115_71, hjj115_71, hf⟩ := zo_lj hf
      have kj115_71 : ∀ (x62 : Nat) (x63 : Int32) (x64 : Int32) (x65 : Int64) (x66 : Int64) (x67 : Int32) (x68 : Int32) (x69 : Int64) (x70 : Int32) (h71 : zH), j115_71 x62 x63 x64 x65 x66 x67 x68 x69 x70 h71 = some (ro_, ho_) → zq_wp sc (d + 1) 250 115 [some (.ref x62), none, some (.int x63), none, some (.int x64), some (.long x65), none, some (.long x66), none, some (.int x67), none, none, some (.int x68)] [.int x70, .long x69] h71 (some (.int ro_), ho_) := by
        intro x62 x63 x64 x65 x66 x67 x68 x69 x70 h71 hf
        rw [hjj115_71] at hf
        refine zq_wg 5 (pc' := 88) (lv' := [some (.ref x62), none, some (.int x63), none, some (.int x64), some (.long x65), none, some (.long x66), none, some (.int x67), some (.long (x69 * x70.toInt64)), none, some (.int (x68 + (1 : Int32)))]) (st' := []) (h' := h71) rfl ?_
        exact ih x62 x63 x64 x65 x66 x67 (x69 * x70.toInt64) (x68 + (1 : Int32)) h71 _ _ _ hk125 hf
      refine zr_if (y57 ≤ y59) 108 103 (st' := [.long y58]) rfl rfl (fun b72 => ?_) (fun b72 => ?_)
      · have hf := zo_t hf b72
        refine zq_wg 1 (pc' := 109) (lv' := [some (.ref y52), none, some (.int y53), none, some (.int y54), some (.long y55), none, some (.long y56), none, some (.int y57), some (.long y58), none, some (.int y59)]) (st' := [.ref y52, .long y58]) (h' := h60) rfl ?_
        obtain ⟨e76, v74, h73, e75, hf⟩ := zo_v_s hf
        refine zr_cv zq_m152 [] [.long y58] rfl rfl rfl rfl rfl (Nat.le_of_ble_eq_true rfl) (Nat.le_of_ble_eq_true rfl) e76 (zm_men_ok sc d (by omega) e75) ?_
        refine zq_wg 0 (pc' := 112) (lv' := [some (.ref y52), none, some (.int y53), none, some (.int y54), some (.long y55), none, some (.long y56), none, some (.int y57), some (.long y58), none, some (.int y59)]) (st' := [.int v74, .long y58]) (h' := h73) rfl ?_
        refine zq_wg 2 (pc' := 115) (lv' := [some (.ref y52), none, some (.int y53), none, some (.int y54), some (.long y55), none, some (.long y56), none, some (.int y57), some (.long y58), none, some (.int y59)]) (st' := [.int (v74 - y54), .long y58]) (h' := h73) rfl ?_
        refine zq_fg [some (.ref y52), none, some (.int y53), none, some (.int y54), some (.long y55), none, some (.long y56), none, some (.int y57), none, none, some (.int y59)] (zq_lvle_s (zq_lvle_s (zq_lvle_s (zq_lvle_s (zq_lvle_s (zq_lvle_s (zq_lvle_s (zq_lvle_s (zq_lvle_s (zq_lvle_s (zq_lvle_n (zq_lvle_s (zq_lvle_s zq_lvle_nil))))))))))))) ?_
        exact kj115_71 y52 y53 y54 y55 y56 y57 y59 y58 (v74 - y54) h73 hf
      · have hf := zo_f hf b72
        refine zq_wg 2 (pc' := 115) (lv' := [some (.ref y52), none, some (.int y53), none, some (.int y54), some (.long y55), none, some (.long y56), none, some (.int y57), some (.long y58), none, some (.int y59)]) (st' := [.int y54, .long y58]) (h' := h60) rfl ?_
        refine zq_fg [some (.ref y52), none, some (.int y53), none, some (.int y54), some (.long y55), none, some (.long y56), none, some (.int y57), none, none, some (.int y59)] (zq_lvle_s (zq_lvle_s (zq_lvle_s (zq_lvle_s (zq_lvle_s (zq_lvle_s (zq_lvle_s (zq_lvle_s (zq_lvle_s (zq_lvle_s (zq_lvle_n (zq_lvle_s (zq_lvle_s zq_lvle_nil))))))))))))) ?_
        exact kj115_71 y52 y53 y54 y55 y56 y57 y59 y58 y54 h60 hf
set_option maxRecDepth 4000 in
theorem zm_fairBy_l128_ok (sc : zX) (d : Nat) (hd : 1 ≤ d) : ∀ (n : Nat) (y85 : Nat) (y86 : Int32) (y87 : Int32) (y88 : Int64) (y89 : Int64) (y90 : Int32) (y91 : Int64) (y92 : Int32) (h93 : zH) (k157 : Nat → Int32 → Int32 → Int64 → Int64 → Int32 → Int64 → zH → Option (Int32 × zH)) (ro_ : Int32) (ho_ : zH), (∀ (z0 : Nat) (z1 : Int32) (z2 : Int32) (z3 : Int64) (z4 : Int64) (z5 : Int32) (z6 : Int64) (hz : zH), k157 z0 z1 z2 z3 z4 z5 z6 hz = some (ro_, ho_) → zq_wp sc (d + 1) 250 157 [some (.ref z0), none, some (.int z1), none, some (.int z2), some (.long z3), none, some (.long z4), none, some (.int z5), some (.long z6), none, none] [] hz (some (.int ro_), ho_)) → zm_fairBy_l128 sc n y85 y86 y87 y88 y89 y90 y91 y92 h93 k157 = some (ro_, ho_) → zq_wp sc (d + 1) 250 128 [some (.ref y85), none, some (.int y86), none, some (.int y87), some (.long y88), none, some (.long y89), none, some (.int y90), some (.long y91), none, some (.int y92)] [] h93 (some (.int ro_), ho_) := by
  intro n
  induction n with
  | zero => intro y85 y86 y87 y88 y89 y90 y91 y92 h93 k157 ro_ ho_ hk157 hf; cases hf
  | succ n ih =>
    intro y85 y86 y87 y88 y89 y90 y91 y92 h93 k157 ro_ ho_ hk157 hf
    refine zq_wg 2 (pc' := 132) (lv' := [some (.ref y85), none, some (.int y86), none, some (.int y87), some (.long y88), none, some (.long y89), none, some (.int y90), some (.long y91), none, some (.int y92)]) (st' := [.int y90, .int y92]) (h' := h93) rfl ?_
    refine zr_if (y90 ≤ y92) 157 135 (st' := []) rfl rfl (fun b94 => ?_) (fun b94 => ?_)
    · have hf := zo_t hf b94
      refine zq_fg [some (.ref y85), none, some (.int y86), none, some (.int y87), some (.long y88), none, some (.long y89), none, some (.int y90), some (.long y91), none, none] (zq_lvle_s (zq_lvle_s (zq_lvle_s (zq_lvle_s (zq_lvle_s (zq_lvle_s (zq_lvle_s (zq_lvle_s (zq_lvle_s (zq_lvle_s (zq_lvle_s (zq_lvle_s (zq_lvle_n zq_lvle_nil))))))))))))) ?_
      exact hk157 y85 y86 y87 y88 y89 y90 y91 h93 hf
    · have hf := zo_f hf b94
      refine zq_wg 10 (pc' := 148) (lv' := [some (.ref y85), none, some (.int y86), none, some (.int y87), some (.long y88), none, some (.long y89), none, some (.int y90), some (.long y91), none, some (.int y92)]) (st' := [.long ((y92 + (1 : Int32)).toInt64), .long (y91 * (y86 - y92).toInt64)]) (h' := h93) rfl ?_
      obtain ⟨v95, e96, hf⟩ := zo_b_s hf
      refine zr_ldiv rfl e96 ?_
      refine zq_wg 3 (pc' := 128) (lv' := [some (.ref y85), none, some (.int y86), none, some (.int y87), some (.long y88), none, some (.long y89), none, some (.int y90), some (.long v95), none, some (.int (y92 + (1 : Int32)))]) (st' := []) (h' := h93) rfl ?_
      exact ih y85 y86 y87 y88 y89 y90 v95 (y92 + (1 : Int32)) h93 _ _ _ hk157 hf
set_option maxRecDepth 4000 in
theorem zm_fairBy_l76_ok (sc : zX) (d : Nat) (hd : 1 ≤ d) : ∀ (n : Nat) (y44 : Nat) (y45 : Int32) (y46 : Int32) (y47 : Int64) (y48 : Int64) (y49 : Int32) (h50 : zH) (k170 : Int64 → Int64 → zH → Option (Int32 × zH)) (ro_ : Int32) (ho_ : zH), (∀ (z0 : Int64) (z1 : Int64) (hz : zH), k170 z0 z1 hz = some (ro_, ho_) → zq_wp sc (d + 1) 250 170 [none, none, none, none, none, some (.long z0), none, some (.long z1), none, none, none, none, none] [] hz (some (.int ro_), ho_)) → zm_fairBy_l76 sc n y44 y45 y46 y47 y48 y49 h50 k170 = some (ro_, ho_) → zq_wp sc (d + 1) 250 76 [some (.ref y44), none, some (.int y45), none, some (.int y46), some (.long y47), none, some (.long y48), none, some (.int y49), none, none, none] [] h50 (some (.int ro_), ho_) := by
  intro n
  induction n with
  | zero => intro y44 y45 y46 y47 y48 y49 h50 k170 ro_ ho_ hk170 hf; cases hf
  | succ n ih =>
    intro y44 y45 y46 y47 y48 y49 h50 k170 ro_ ho_ hk170 hf
    refine zq_wg 2 (pc' := 79) (lv' := [some (.ref y44), none, some (.int y45), none, some (.int y46), some (.long y47), none, some (.long y48), none, some (.int y49), none, none, none]) (st' := [.int y45, .int y49]) (h' := h50) rfl ?_
    refine zr_if (y45 < y49) 170 82 (st' := []) rfl rfl (fun b51 => ?_) (fun b51 => ?_)
    · have hf := zo_t hf b51
      refine zq_fg [none, none, none, none, none, some (.long y47), none, some (.long y48), none, none, none, none, none] (zq_lvle_n (zq_lvle_s (zq_lvle_n (zq_lvle_s (zq_lvle_n (zq_lvle_s (zq_lvle_s (zq_lvle_s (zq_lvle_s (zq_lvle_n (zq_lvle_s (zq_lvle_s (zq_lvle_s zq_lvle_nil))))))))))))) ?_
      exact hk170 y47 y48 h50 hf
    · have hf := zo_f hf b51
      refine zq_wg 4 (pc' := 88) (lv' := [some (.ref y44), none, some (.int y45), none, some (.int y46), some (.long y47), none, some (.long y48), none, some (.int y49), some (.long (1 : Int64)), none, some (.int (0 : Int32))]) (st' := []) (h' := h50) rfl ?_
      refine zm_fairBy_l88_ok sc d hd zo_F y44 y45 y46 y47 y48 y49 (1 : Int64) (0 : Int32) h50 _ _ _ ?_ hf
      · intro x77 x78 x79 x80 x81 x82 x83 h84 hf
        refine zq_wg 2 (pc' := 128) (lv' := [some (.ref x77), none, some (.int x78), none, some (.int x79), some (.long x80), none, some (.long x81), none, some (.int x82), some (.long x83), none, some (.int (0 : Int32))]) (st' := []) (h' := h84) rfl ?_
        refine zm_fairBy_l128_ok sc d hd zo_F x77 x78 x79 x80 x81 x82 x83 (0 : Int32) h84 _ _ _ ?_ hf
        · intro x97 x98 x99 x100 x101 x102 x103 h104 hf
          refine zq_wg 6 (pc' := 76) (lv' := [some (.ref x97), none, some (.int x98), none, some (.int x99), some (.long (x100 + x103)), none, some (.long x101), none, some (.int (x102 + (1 : Int32))), some (.long x103), none, none]) (st' := []) (h' := h104) rfl ?_
          refine zq_fg [some (.ref x97), none, some (.int x98), none, some (.int x99), some (.long (x100 + x103)), none, some (.long x101), none, some (.int (x102 + (1 : Int32))), none, none, none] (zq_lvle_s (zq_lvle_s (zq_lvle_s (zq_lvle_s (zq_lvle_s (zq_lvle_s (zq_lvle_s (zq_lvle_s (zq_lvle_s (zq_lvle_s (zq_lvle_n (zq_lvle_s (zq_lvle_s zq_lvle_nil))))))))))))) ?_
          exact ih x97 x98 x99 (x100 + x103) x101 (x102 + (1 : Int32)) h104 _ _ _ hk170 hf
set_option maxRecDepth 4000 in
theorem zm_fairBy_ok (sc : zX) (d : Nat) (hd : 2 ≤ d) {a0 : Nat} {a1 : Int32} {a2 : Int32} {a3 : Int32} {h : zH} {ro_ : Int32} {ho_ : zH} (hf : zm_fairBy sc a0 a1 a2 a3 h = some (ro_, ho_)) : zq_wm sc d 250 [.ref a0, .int a1, .int a2, .int a3] h (some (.int ro_), ho_) := by
  unfold zm_fairBy at hf
  obtain ⟨d, rfl⟩ : ∃ d', d = d' + 1 := ⟨d - 1, by omega⟩
  have hd : 1 ≤ d := by omega
  show zq_wp sc (d + 1) 250 0 [some (.ref a0), some (.int a1), some (.int a2), some (.int a3), none, none, none, none, none, none, none, none, none] [] h _
  refine zq_wg 4 (pc' := 6) (lv' := [some (.ref a0), some (.int a1), some (.int a2), some (.int a3), some (.int (0 : Int32)), some (.int (0 : Int32)), none, none, none, none, none, none, none]) (st' := []) (h' := h) rfl ?_
  refine zm_fairBy_l6_ok sc d hd zo_F a0 a1 a2 a3 (0 : Int32) (0 : Int32) h _ _ _ ?_ hf
  · intro x19 x20 x21 x22 h23 hf
    refine zq_wg 6 (pc' := 51) (lv' := [some (.ref x19), none, some (.int x20), some (.int x21), some (.int x22), some (.long (0 : Int64)), none, some (.long (1 : Int64)), none, some (.int (0 : Int32)), none, none, none]) (st' := []) (h' := h23) rfl ?_
    refine zm_fairBy_l51_ok sc d hd zo_F x19 x20 x21 x22 (0 : Int64) (1 : Int64) (0 : Int32) h23 _ _ _ ?_ hf
    · intro x37 x38 x39 x40 x41 x42 h43 hf
      refine zq_wg 2 (pc' := 76) (lv' := [some (.ref x37), none, some (.int x38), some (.int x39), some (.int x40), some (.long x41), none, some (.long x42), none, some (.int x39), none, none, none]) (st' := []) (h' := h43) rfl ?_
      refine zq_fg [some (.ref x37), none, some (.int x38), none, some (.int x40), some (.long x41), none, some (.long x42), none, some (.int x39), none, none, none] (zq_lvle_s (zq_lvle_s (zq_lvle_s (zq_lvle_n (zq_lvle_s (zq_lvle_s (zq_lvle_s (zq_lvle_s (zq_lvle_s (zq_lvle_s (zq_lvle_s (zq_lvle_s (zq_lvle_s zq_lvle_nil))))))))))))) ?_
      refine zm_fairBy_l76_ok sc d hd zo_F x37 x38 x40 x41 x42 x39 h43 _ _ _ ?_ hf
      · intro x105 x106 h107 hf
        refine zq_wg 2 (pc' := 174) (lv' := [none, none, none, none, none, some (.long x105), none, some (.long x106), none, none, none, none, none]) (st' := [.long x106, .long x105]) (h' := h107) rfl ?_
        obtain ⟨v109, h108, e110, hf⟩ := zo_c_s hf
        refine zr_cs zq_m251 [.long x105, .long x106] [] rfl rfl (by decide) rfl rfl rfl (Nat.le_of_ble_eq_true rfl) (Nat.le_of_ble_eq_true rfl) (zm_millionths_ok sc d (by omega) e110) ?_
        refine zq_wg 0 (pc' := 177) (lv' := [none, none, none, none, none, some (.long x105), none, some (.long x106), none, none, none, none, none]) (st' := [.int v109]) (h' := h108) rfl ?_
        exact zr_ri rfl rfl rfl hf
set_option maxRecDepth 4000 in
def zm_fair (sc : zX) (a0 : Nat) (a1 : Int32) (a2 : Int32) (h : zH) : Option (Int32 × zH) := zo_b (zo_pI h 10 a0 0 (0 : Int32)) (fun h1 => zo_v h1 a0 10 (zm_isMan sc a0 a1 h1) (fun v4 h3 => if v4 = 0 then (some ((-1 : Int32), h3)) else (zo_c (zm_within sc a2 (1 : Int32) (9 : Int32) h3) (fun v9 h8 => if v9 = 0 then (some ((-1 : Int32), h8)) else (zo_v h8 a0 10 (zm_toldOf sc a0 a1 (0 : Int32) h8) (fun v13 h12 => if v13 ≤ 0 then (some ((-1 : Int32), h12)) else (zo_v h12 a0 10 (zm_toldOf sc a0 a1 (0 : Int32) h12) (fun v18 h17 => zo_v h17 a0 10 (zm_toldOf sc a0 a1 a2 h17) (fun v22 h21 => zo_v h21 a0 10 (zm_fairBy sc a0 a2 v18 v22 h21) (fun v26 h25 => some (v26, h25)))))))))))
set_option maxRecDepth 4000 in
theorem zm_fair_ok (sc : zX) (d : Nat) (hd : 3 ≤ d) {a0 : Nat} {a1 : Int32} {a2 : Int32} {h : zH} {ro_ : Int32} {ho_ : zH} (hf : zm_fair sc a0 a1 a2 h = some (ro_, ho_)) : zq_wm sc d 248 [.ref a0, .int a1, .int a2] h (some (.int ro_), ho_) := by
  unfold zm_fair at hf
  obtain ⟨d, rfl⟩ : ∃ d', d = d' + 1 := ⟨d - 1, by omega⟩
  have hd : 2 ≤ d := by omega
  show zq_wp sc (d + 1) 248 0 [some (.ref a0), some (.int a1), some (.int a2)] [] h _
  refine zq_wg 2 (pc' := 2) (lv' := [some (.ref a0), some (.int a1), some (.int a2)]) (st' := [.int (0 : Int32), .ref a0]) (h' := h) rfl ?_
  obtain ⟨h1, e2, hf⟩ := zo_b_s hf
  refine zr_pI rfl rfl (by decide) rfl rfl e2 ?_
  refine zq_wg 2 (pc' := 7) (lv' := [some (.ref a0), some (.int a1), some (.int a2)]) (st' := [.int a1, .ref a0]) (h' := h1) rfl ?_
  obtain ⟨e6, v4, h3, e5, hf⟩ := zo_v_s hf
  refine zr_cv zq_m198 [.int a1] [] rfl rfl rfl rfl rfl (Nat.le_of_ble_eq_true rfl) (Nat.le_of_ble_eq_true rfl) e6 (zm_isMan_ok sc d (by omega) e5) ?_
  refine zq_wg 0 (pc' := 10) (lv' := [some (.ref a0), some (.int a1), some (.int a2)]) (st' := [.int v4]) (h' := h3) rfl ?_
  refine zr_if (v4 = 0) 52 13 (st' := []) rfl rfl (fun b7 => ?_) (fun b7 => ?_)
  · have hf := zo_t hf b7
    refine zq_wg 1 (pc' := 53) (lv' := [some (.ref a0), some (.int a1), some (.int a2)]) (st' := [.int (-1 : Int32)]) (h' := h3) rfl ?_
    exact zr_ri rfl rfl rfl hf
  · have hf := zo_f hf b7
    refine zq_wg 3 (pc' := 17) (lv' := [some (.ref a0), some (.int a1), some (.int a2)]) (st' := [.int (9 : Int32), .int (1 : Int32), .int a2]) (h' := h3) rfl ?_
    obtain ⟨v9, h8, e10, hf⟩ := zo_c_s hf
    refine zr_cs zq_m173 [.int a2, .int (1 : Int32), .int (9 : Int32)] [] rfl rfl (by decide) rfl rfl rfl (Nat.le_of_ble_eq_true rfl) (Nat.le_of_ble_eq_true rfl) (zm_within_ok sc d (by omega) e10) ?_
    refine zq_wg 0 (pc' := 20) (lv' := [some (.ref a0), some (.int a1), some (.int a2)]) (st' := [.int v9]) (h' := h8) rfl ?_
    refine zr_if (v9 = 0) 52 23 (st' := []) rfl rfl (fun b11 => ?_) (fun b11 => ?_)
    · have hf := zo_t hf b11
      refine zq_wg 1 (pc' := 53) (lv' := [some (.ref a0), some (.int a1), some (.int a2)]) (st' := [.int (-1 : Int32)]) (h' := h8) rfl ?_
      exact zr_ri rfl rfl rfl hf
    · have hf := zo_f hf b11
      refine zq_wg 3 (pc' := 26) (lv' := [some (.ref a0), some (.int a1), some (.int a2)]) (st' := [.int (0 : Int32), .int a1, .ref a0]) (h' := h8) rfl ?_
      obtain ⟨e15, v13, h12, e14, hf⟩ := zo_v_s hf
      refine zr_cv zq_m249 [.int a1, .int (0 : Int32)] [] rfl rfl rfl rfl rfl (Nat.le_of_ble_eq_true rfl) (Nat.le_of_ble_eq_true rfl) e15 (zm_toldOf_ok sc d (by omega) e14) ?_
      refine zq_wg 0 (pc' := 29) (lv' := [some (.ref a0), some (.int a1), some (.int a2)]) (st' := [.int v13]) (h' := h12) rfl ?_
      refine zr_if (v13 ≤ 0) 52 32 (st' := []) rfl rfl (fun b16 => ?_) (fun b16 => ?_)
      · have hf := zo_t hf b16
        refine zq_wg 1 (pc' := 53) (lv' := [some (.ref a0), some (.int a1), some (.int a2)]) (st' := [.int (-1 : Int32)]) (h' := h12) rfl ?_
        exact zr_ri rfl rfl rfl hf
      · have hf := zo_f hf b16
        refine zq_wg 5 (pc' := 37) (lv' := [some (.ref a0), some (.int a1), some (.int a2)]) (st' := [.int (0 : Int32), .int a1, .ref a0, .int a2, .ref a0]) (h' := h12) rfl ?_
        obtain ⟨e20, v18, h17, e19, hf⟩ := zo_v_s hf
        refine zr_cv zq_m249 [.int a1, .int (0 : Int32)] [.int a2, .ref a0] rfl rfl rfl rfl rfl (Nat.le_of_ble_eq_true rfl) (Nat.le_of_ble_eq_true rfl) e20 (zm_toldOf_ok sc d (by omega) e19) ?_
        refine zq_wg 0 (pc' := 40) (lv' := [some (.ref a0), some (.int a1), some (.int a2)]) (st' := [.int v18, .int a2, .ref a0]) (h' := h17) rfl ?_
        refine zq_wg 3 (pc' := 43) (lv' := [some (.ref a0), some (.int a1), some (.int a2)]) (st' := [.int a2, .int a1, .ref a0, .int v18, .int a2, .ref a0]) (h' := h17) rfl ?_
        obtain ⟨e24, v22, h21, e23, hf⟩ := zo_v_s hf
        refine zr_cv zq_m249 [.int a1, .int a2] [.int v18, .int a2, .ref a0] rfl rfl rfl rfl rfl (Nat.le_of_ble_eq_true rfl) (Nat.le_of_ble_eq_true rfl) e24 (zm_toldOf_ok sc d (by omega) e23) ?_
        refine zq_wg 0 (pc' := 46) (lv' := [some (.ref a0), some (.int a1), some (.int a2)]) (st' := [.int v22, .int v18, .int a2, .ref a0]) (h' := h21) rfl ?_
        obtain ⟨e28, v26, h25, e27, hf⟩ := zo_v_s hf
        refine zr_cv zq_m250 [.int a2, .int v18, .int v22] [] rfl rfl rfl rfl rfl (Nat.le_of_ble_eq_true rfl) (Nat.le_of_ble_eq_true rfl) e28 (zm_fairBy_ok sc d (by omega) e27) ?_
        refine zq_wg 0 (pc' := 49) (lv' := [some (.ref a0), some (.int a1), some (.int a2)]) (st' := [.int v26]) (h' := h25) rfl ?_
        refine zq_wg 1 (pc' := 53) (lv' := [some (.ref a0), some (.int a1), some (.int a2)]) (st' := [.int v26]) (h' := h25) rfl ?_
        exact zr_ri rfl rfl rfl hf
set_option maxRecDepth 4000 in
def zm_more_l48 (sc : zX) : Nat → Nat → Int32 → Int32 → Int32 → Int32 → zH → Option (Int32 × zH)
  | 0, _, _, _, _, _, _ => none
  | n + 1, y21, y22, y23, y24, y25, h26 => if (8 : Int32) < y25 then (some ((-1 : Int32), h26)) else (zo_v h26 y21 10 (zm_toldOf sc y21 y22 (0 : Int32) h26) (fun v29 h28 => zo_v h28 y21 10 (zm_toldOf sc y21 y22 y23 h28) (fun v33 h32 => zo_v h32 y21 10 (zm_fairBy sc y21 y23 (v29 + y25) (v33 + y25) h32) (fun v37 h36 => if y24 ≤ v37 then (zm_more_l48 sc n y21 y22 y23 y24 (y25 + (1 : Int32)) h36 ) else (some (y25, h36))))))
set_option maxRecDepth 4000 in
def zm_more (sc : zX) (a0 : Nat) (a1 : Int32) (a2 : Int32) (a3 : Int32) (h : zH) : Option (Int32 × zH) := zo_b (zo_pI h 10 a0 0 (0 : Int32)) (fun h1 => zo_v h1 a0 10 (zm_isMan sc a0 a1 h1) (fun v4 h3 => if v4 = 0 then (some ((-1 : Int32), h3)) else (zo_c (zm_within sc a2 (1 : Int32) (9 : Int32) h3) (fun v9 h8 => if v9 = 0 then (some ((-1 : Int32), h8)) else (zo_c (zm_within sc a3 (1 : Int32) (1000000 : Int32) h8) (fun v13 h12 => if v13 = 0 then (some ((-1 : Int32), h12)) else (zo_v h12 a0 10 (zm_toldOf sc a0 a1 (0 : Int32) h12) (fun v17 h16 => if v17 = 0 then (some ((-1 : Int32), h16)) else (zm_more_l48 sc zo_F a0 a1 a2 a3 (0 : Int32) h16 )))))))))
set_option maxRecDepth 4000 in
theorem zm_more_l48_ok (sc : zX) (d : Nat) (hd : 2 ≤ d) : ∀ (n : Nat) (y21 : Nat) (y22 : Int32) (y23 : Int32) (y24 : Int32) (y25 : Int32) (h26 : zH) (ro_ : Int32) (ho_ : zH),  zm_more_l48 sc n y21 y22 y23 y24 y25 h26  = some (ro_, ho_) → zq_wp sc (d + 1) 252 48 [some (.ref y21), some (.int y22), some (.int y23), some (.int y24), some (.int y25)] [] h26 (some (.int ro_), ho_) := by
  intro n
  induction n with
  | zero => intro y21 y22 y23 y24 y25 h26 ro_ ho_ hf; cases hf
  | succ n ih =>
    intro y21 y22 y23 y24 y25 h26 ro_ ho_ hf
    refine zq_wg 2 (pc' := 52) (lv' := [some (.ref y21), some (.int y22), some (.int y23), some (.int y24), some (.int y25)]) (st' := [.int (8 : Int32), .int y25]) (h' := h26) rfl ?_
    refine zr_if ((8 : Int32) < y25) 91 55 (st' := []) rfl rfl (fun b27 => ?_) (fun b27 => ?_)
    · have hf := zo_t hf b27
      refine zq_wg 1 (pc' := 92) (lv' := [some (.ref y21), some (.int y22), some (.int y23), some (.int y24), some (.int y25)]) (st' := [.int (-1 : Int32)]) (h' := h26) rfl ?_
      exact zr_ri rfl rfl rfl hf
    · have hf := zo_f hf b27
      refine zq_wg 5 (pc' := 60) (lv' := [some (.ref y21), some (.int y22), some (.int y23), some (.int y24), some (.int y25)]) (st' := [.int (0 : Int32), .int y22, .ref y21, .int y23, .ref y21]) (h' := h26) rfl ?_
      obtain ⟨e31, v29, h28, e30, hf⟩ := zo_v_s hf
      refine zr_cv zq_m249 [.int y22, .int (0 : Int32)] [.int y23, .ref y21] rfl rfl rfl rfl rfl (Nat.le_of_ble_eq_true rfl) (Nat.le_of_ble_eq_true rfl) e31 (zm_toldOf_ok sc d (by omega) e30) ?_
      refine zq_wg 0 (pc' := 63) (lv' := [some (.ref y21), some (.int y22), some (.int y23), some (.int y24), some (.int y25)]) (st' := [.int v29, .int y23, .ref y21]) (h' := h28) rfl ?_
      refine zq_wg 5 (pc' := 69) (lv' := [some (.ref y21), some (.int y22), some (.int y23), some (.int y24), some (.int y25)]) (st' := [.int y23, .int y22, .ref y21, .int (v29 + y25), .int y23, .ref y21]) (h' := h28) rfl ?_
      obtain ⟨e35, v33, h32, e34, hf⟩ := zo_v_s hf
      refine zr_cv zq_m249 [.int y22, .int y23] [.int (v29 + y25), .int y23, .ref y21] rfl rfl rfl rfl rfl (Nat.le_of_ble_eq_true rfl) (Nat.le_of_ble_eq_true rfl) e35 (zm_toldOf_ok sc d (by omega) e34) ?_
      refine zq_wg 0 (pc' := 72) (lv' := [some (.ref y21), some (.int y22), some (.int y23), some (.int y24), some (.int y25)]) (st' := [.int v33, .int (v29 + y25), .int y23, .ref y21]) (h' := h32) rfl ?_
      refine zq_wg 2 (pc' := 75) (lv' := [some (.ref y21), some (.int y22), some (.int y23), some (.int y24), some (.int y25)]) (st' := [.int (v33 + y25), .int (v29 + y25), .int y23, .ref y21]) (h' := h32) rfl ?_
      obtain ⟨e39, v37, h36, e38, hf⟩ := zo_v_s hf
      refine zr_cv zq_m250 [.int y23, .int (v29 + y25), .int (v33 + y25)] [] rfl rfl rfl rfl rfl (Nat.le_of_ble_eq_true rfl) (Nat.le_of_ble_eq_true rfl) e39 (zm_fairBy_ok sc d (by omega) e38) ?_
      refine zq_wg 0 (pc' := 78) (lv' := [some (.ref y21), some (.int y22), some (.int y23), some (.int y24), some (.int y25)]) (st' := [.int v37]) (h' := h36) rfl ?_
      refine zq_wg 1 (pc' := 79) (lv' := [some (.ref y21), some (.int y22), some (.int y23), some (.int y24), some (.int y25)]) (st' := [.int y24, .int v37]) (h' := h36) rfl ?_
      refine zr_if (y24 ≤ v37) 85 82 (st' := []) rfl rfl (fun b40 => ?_) (fun b40 => ?_)
      · have hf := zo_t hf b40
        refine zq_wg 2 (pc' := 48) (lv' := [some (.ref y21), some (.int y22), some (.int y23), some (.int y24), some (.int (y25 + (1 : Int32)))]) (st' := []) (h' := h36) rfl ?_
        exact ih y21 y22 y23 y24 (y25 + (1 : Int32)) h36 _ _ hf
      · have hf := zo_f hf b40
        refine zq_wg 1 (pc' := 84) (lv' := [some (.ref y21), some (.int y22), some (.int y23), some (.int y24), some (.int y25)]) (st' := [.int y25]) (h' := h36) rfl ?_
        exact zr_ri rfl rfl rfl hf
set_option maxRecDepth 4000 in
theorem zm_more_ok (sc : zX) (d : Nat) (hd : 3 ≤ d) {a0 : Nat} {a1 : Int32} {a2 : Int32} {a3 : Int32} {h : zH} {ro_ : Int32} {ho_ : zH} (hf : zm_more sc a0 a1 a2 a3 h = some (ro_, ho_)) : zq_wm sc d 252 [.ref a0, .int a1, .int a2, .int a3] h (some (.int ro_), ho_) := by
  unfold zm_more at hf
  obtain ⟨d, rfl⟩ : ∃ d', d = d' + 1 := ⟨d - 1, by omega⟩
  have hd : 2 ≤ d := by omega
  show zq_wp sc (d + 1) 252 0 [some (.ref a0), some (.int a1), some (.int a2), some (.int a3), none] [] h _
  refine zq_wg 2 (pc' := 2) (lv' := [some (.ref a0), some (.int a1), some (.int a2), some (.int a3), none]) (st' := [.int (0 : Int32), .ref a0]) (h' := h) rfl ?_
  obtain ⟨h1, e2, hf⟩ := zo_b_s hf
  refine zr_pI rfl rfl (by decide) rfl rfl e2 ?_
  refine zq_wg 2 (pc' := 7) (lv' := [some (.ref a0), some (.int a1), some (.int a2), some (.int a3), none]) (st' := [.int a1, .ref a0]) (h' := h1) rfl ?_
  obtain ⟨e6, v4, h3, e5, hf⟩ := zo_v_s hf
  refine zr_cv zq_m198 [.int a1] [] rfl rfl rfl rfl rfl (Nat.le_of_ble_eq_true rfl) (Nat.le_of_ble_eq_true rfl) e6 (zm_isMan_ok sc d (by omega) e5) ?_
  refine zq_wg 0 (pc' := 10) (lv' := [some (.ref a0), some (.int a1), some (.int a2), some (.int a3), none]) (st' := [.int v4]) (h' := h3) rfl ?_
  refine zr_if (v4 = 0) 43 13 (st' := []) rfl rfl (fun b7 => ?_) (fun b7 => ?_)
  · have hf := zo_t hf b7
    refine zq_wg 1 (pc' := 44) (lv' := [some (.ref a0), some (.int a1), some (.int a2), some (.int a3), none]) (st' := [.int (-1 : Int32)]) (h' := h3) rfl ?_
    exact zr_ri rfl rfl rfl hf
  · have hf := zo_f hf b7
    refine zq_wg 3 (pc' := 17) (lv' := [some (.ref a0), some (.int a1), some (.int a2), some (.int a3), none]) (st' := [.int (9 : Int32), .int (1 : Int32), .int a2]) (h' := h3) rfl ?_
    obtain ⟨v9, h8, e10, hf⟩ := zo_c_s hf
    refine zr_cs zq_m173 [.int a2, .int (1 : Int32), .int (9 : Int32)] [] rfl rfl (by decide) rfl rfl rfl (Nat.le_of_ble_eq_true rfl) (Nat.le_of_ble_eq_true rfl) (zm_within_ok sc d (by omega) e10) ?_
    refine zq_wg 0 (pc' := 20) (lv' := [some (.ref a0), some (.int a1), some (.int a2), some (.int a3), none]) (st' := [.int v9]) (h' := h8) rfl ?_
    refine zr_if (v9 = 0) 43 23 (st' := []) rfl rfl (fun b11 => ?_) (fun b11 => ?_)
    · have hf := zo_t hf b11
      refine zq_wg 1 (pc' := 44) (lv' := [some (.ref a0), some (.int a1), some (.int a2), some (.int a3), none]) (st' := [.int (-1 : Int32)]) (h' := h8) rfl ?_
      exact zr_ri rfl rfl rfl hf
    · have hf := zo_f hf b11
      refine zq_wg 3 (pc' := 28) (lv' := [some (.ref a0), some (.int a1), some (.int a2), some (.int a3), none]) (st' := [.int (1000000 : Int32), .int (1 : Int32), .int a3]) (h' := h8) rfl ?_
      obtain ⟨v13, h12, e14, hf⟩ := zo_c_s hf
      refine zr_cs zq_m173 [.int a3, .int (1 : Int32), .int (1000000 : Int32)] [] rfl rfl (by decide) rfl rfl rfl (Nat.le_of_ble_eq_true rfl) (Nat.le_of_ble_eq_true rfl) (zm_within_ok sc d (by omega) e14) ?_
      refine zq_wg 0 (pc' := 31) (lv' := [some (.ref a0), some (.int a1), some (.int a2), some (.int a3), none]) (st' := [.int v13]) (h' := h12) rfl ?_
      refine zr_if (v13 = 0) 43 34 (st' := []) rfl rfl (fun b15 => ?_) (fun b15 => ?_)
      · have hf := zo_t hf b15
        refine zq_wg 1 (pc' := 44) (lv' := [some (.ref a0), some (.int a1), some (.int a2), some (.int a3), none]) (st' := [.int (-1 : Int32)]) (h' := h12) rfl ?_
        exact zr_ri rfl rfl rfl hf
      · have hf := zo_f hf b15
        refine zq_wg 3 (pc' := 37) (lv' := [some (.ref a0), some (.int a1), some (.int a2), some (.int a3), none]) (st' := [.int (0 : Int32), .int a1, .ref a0]) (h' := h12) rfl ?_
        obtain ⟨e19, v17, h16, e18, hf⟩ := zo_v_s hf
        refine zr_cv zq_m249 [.int a1, .int (0 : Int32)] [] rfl rfl rfl rfl rfl (Nat.le_of_ble_eq_true rfl) (Nat.le_of_ble_eq_true rfl) e19 (zm_toldOf_ok sc d (by omega) e18) ?_
        refine zq_wg 0 (pc' := 40) (lv' := [some (.ref a0), some (.int a1), some (.int a2), some (.int a3), none]) (st' := [.int v17]) (h' := h16) rfl ?_
        refine zr_if (v17 = 0) 43 45 (st' := []) rfl rfl (fun b20 => ?_) (fun b20 => ?_)
        · have hf := zo_t hf b20
          refine zq_wg 1 (pc' := 44) (lv' := [some (.ref a0), some (.int a1), some (.int a2), some (.int a3), none]) (st' := [.int (-1 : Int32)]) (h' := h16) rfl ?_
          exact zr_ri rfl rfl rfl hf
        · have hf := zo_f hf b20
          refine zq_wg 2 (pc' := 48) (lv' := [some (.ref a0), some (.int a1), some (.int a2), some (.int a3), some (.int (0 : Int32))]) (st' := []) (h' := h16) rfl ?_
          refine zm_more_l48_ok sc d hd zo_F a0 a1 a2 a3 (0 : Int32) h16 _ _ hf
set_option maxRecDepth 4000 in
def zm_see (sc : zX) (a0 : Nat) (a1 : Int32) (h : zH) : Option (Int32 × zH) := zo_b (zo_pI h 10 a0 0 (0 : Int32)) (fun h1 => zo_v h1 a0 10 (zm_cells sc a0 h1) (fun v4 h3 => zo_c (zm_within sc a1 (0 : Int32) v4 h3) (fun v8 h7 => if v8 = 0 then (some ((0 : Int32), h7)) else (zo_b (zo_gR h7 10 a0 25) (fun v11 => zo_b (zq_rdI sc h7 v11 (16 : Int32)) (fun v13 => if v13 = (5 : Int32) then (some ((0 : Int32), h7)) else (zo_b (zo_gR h7 10 a0 25) (fun v16 => zo_b (zo_gR h7 10 a0 25) (fun v18 => zo_b (zq_rdI sc h7 v18 (16 : Int32)) (fun v20 => zo_b (zq_wrX 1 h7 v16 ((17 : Int32) + v20) a1) (fun h22 => zo_b (zo_gR h22 10 a0 25) (fun v24 => zo_b (zq_rdI sc h22 v24 (16 : Int32)) (fun v26 => zo_b (zq_wrX 1 h22 v24 (16 : Int32) (v26 + (1 : Int32))) (fun h28 => some ((1 : Int32), h28)))))))))))))))
set_option maxRecDepth 4000 in
theorem zm_see_ok (sc : zX) (d : Nat) (hd : 1 ≤ d) {a0 : Nat} {a1 : Int32} {h : zH} {ro_ : Int32} {ho_ : zH} (hf : zm_see sc a0 a1 h = some (ro_, ho_)) : zq_wm sc d 253 [.ref a0, .int a1] h (some (.int ro_), ho_) := by
  unfold zm_see at hf
  obtain ⟨d, rfl⟩ : ∃ d', d = d' + 1 := ⟨d - 1, by omega⟩
  have hd : 0 ≤ d := by omega
  show zq_wp sc (d + 1) 253 0 [some (.ref a0), some (.int a1)] [] h _
  refine zq_wg 2 (pc' := 2) (lv' := [some (.ref a0), some (.int a1)]) (st' := [.int (0 : Int32), .ref a0]) (h' := h) rfl ?_
  obtain ⟨h1, e2, hf⟩ := zo_b_s hf
  refine zr_pI rfl rfl (by decide) rfl rfl e2 ?_
  refine zq_wg 3 (pc' := 8) (lv' := [some (.ref a0), some (.int a1)]) (st' := [.ref a0, .int (0 : Int32), .int a1]) (h' := h1) rfl ?_
  obtain ⟨e6, v4, h3, e5, hf⟩ := zo_v_s hf
  refine zr_cv zq_m215 [] [.int (0 : Int32), .int a1] rfl rfl rfl rfl rfl (Nat.le_of_ble_eq_true rfl) (Nat.le_of_ble_eq_true rfl) e6 (zm_cells_ok sc d (by omega) e5) ?_
  refine zq_wg 0 (pc' := 11) (lv' := [some (.ref a0), some (.int a1)]) (st' := [.int v4, .int (0 : Int32), .int a1]) (h' := h3) rfl ?_
  obtain ⟨v8, h7, e9, hf⟩ := zo_c_s hf
  refine zr_cs zq_m173 [.int a1, .int (0 : Int32), .int v4] [] rfl rfl (by decide) rfl rfl rfl (Nat.le_of_ble_eq_true rfl) (Nat.le_of_ble_eq_true rfl) (zm_within_ok sc d (by omega) e9) ?_
  refine zq_wg 0 (pc' := 14) (lv' := [some (.ref a0), some (.int a1)]) (st' := [.int v8]) (h' := h7) rfl ?_
  refine zr_if (v8 = 0) 28 17 (st' := []) rfl rfl (fun b10 => ?_) (fun b10 => ?_)
  · have hf := zo_t hf b10
    refine zq_wg 1 (pc' := 29) (lv' := [some (.ref a0), some (.int a1)]) (st' := [.int (0 : Int32)]) (h' := h7) rfl ?_
    exact zr_ri rfl rfl rfl hf
  · have hf := zo_f hf b10
    refine zq_wg 1 (pc' := 18) (lv' := [some (.ref a0), some (.int a1)]) (st' := [.ref a0]) (h' := h7) rfl ?_
    obtain ⟨v11, e12, hf⟩ := zo_b_s hf
    refine zr_gR rfl rfl (by decide) rfl e12 ?_
    refine zq_wg 1 (pc' := 23) (lv' := [some (.ref a0), some (.int a1)]) (st' := [.int (16 : Int32), .ref v11]) (h' := h7) rfl ?_
    obtain ⟨v13, e14, hf⟩ := zo_b_s hf
    refine zr_iald rfl e14 ?_
    refine zq_wg 1 (pc' := 25) (lv' := [some (.ref a0), some (.int a1)]) (st' := [.int (5 : Int32), .int v13]) (h' := h7) rfl ?_
    refine zr_if (v13 = (5 : Int32)) 28 30 (st' := []) rfl rfl (fun b15 => ?_) (fun b15 => ?_)
    · have hf := zo_t hf b15
      refine zq_wg 1 (pc' := 29) (lv' := [some (.ref a0), some (.int a1)]) (st' := [.int (0 : Int32)]) (h' := h7) rfl ?_
      exact zr_ri rfl rfl rfl hf
    · have hf := zo_f hf b15
      refine zq_wg 1 (pc' := 31) (lv' := [some (.ref a0), some (.int a1)]) (st' := [.ref a0]) (h' := h7) rfl ?_
      obtain ⟨v16, e17, hf⟩ := zo_b_s hf
      refine zr_gR rfl rfl (by decide) rfl e17 ?_
      refine zq_wg 2 (pc' := 37) (lv' := [some (.ref a0), some (.int a1)]) (st' := [.ref a0, .int (17 : Int32), .ref v16]) (h' := h7) rfl ?_
      obtain ⟨v18, e19, hf⟩ := zo_b_s hf
      refine zr_gR rfl rfl (by decide) rfl e19 ?_
      refine zq_wg 1 (pc' := 42) (lv' := [some (.ref a0), some (.int a1)]) (st' := [.int (16 : Int32), .ref v18, .int (17 : Int32), .ref v16]) (h' := h7) rfl ?_
      obtain ⟨v20, e21, hf⟩ := zo_b_s hf
      refine zr_iald rfl e21 ?_
      refine zq_wg 2 (pc' := 45) (lv' := [some (.ref a0), some (.int a1)]) (st' := [.int a1, .int ((17 : Int32) + v20), .ref v16]) (h' := h7) rfl ?_
      obtain ⟨h22, e23, hf⟩ := zo_b_s hf
      refine zr_iast rfl e23 ?_
      refine zq_wg 1 (pc' := 47) (lv' := [some (.ref a0), some (.int a1)]) (st' := [.ref a0]) (h' := h22) rfl ?_
      obtain ⟨v24, e25, hf⟩ := zo_b_s hf
      refine zr_gR rfl rfl (by decide) rfl e25 ?_
      refine zq_wg 2 (pc' := 53) (lv' := [some (.ref a0), some (.int a1)]) (st' := [.int (16 : Int32), .ref v24, .int (16 : Int32), .ref v24]) (h' := h22) rfl ?_
      obtain ⟨v26, e27, hf⟩ := zo_b_s hf
      refine zr_iald rfl e27 ?_
      refine zq_wg 2 (pc' := 56) (lv' := [some (.ref a0), some (.int a1)]) (st' := [.int (v26 + (1 : Int32)), .int (16 : Int32), .ref v24]) (h' := h22) rfl ?_
      obtain ⟨h28, e29, hf⟩ := zo_b_s hf
      refine zr_iast rfl e29 ?_
      refine zq_wg 1 (pc' := 58) (lv' := [some (.ref a0), some (.int a1)]) (st' := [.int (1 : Int32)]) (h' := h28) rfl ?_
      exact zr_ri rfl rfl rfl hf
set_option maxRecDepth 4000 in
def zm_laysGoes_l8 (sc : zX) : Nat → Nat → Int32 → Int32 → zH → Option (Unit × zH)
  | 0, _, _, _, _ => none
  | n + 1, y5, y6, y7, h8 => if (3 : Int32) ≤ y7 then (some ((), h8)) else (zo_b (zo_gR h8 10 y5 37) (fun v10 => zo_b (zo_gR h8 10 y5 10) (fun v12 => zo_b (zq_rdI sc h8 v12 (4 : Int32)) (fun v14 => zo_v h8 y5 10 (zm_goesBy sc y5 y6 v14 y7 h8) (fun v17 h16 => zo_b (zq_wrX 1 h16 v10 y7 v17) (fun h20 => zm_laysGoes_l8 sc n y5 y6 (y7 + (1 : Int32)) h20 ))))))
set_option maxRecDepth 4000 in
def zm_laysGoes (sc : zX) (a0 : Nat) (h : zH) : Option (Unit × zH) := zo_v h a0 10 (zm_oursOf sc a0 (0 : Int32) h) (fun v2 h1 => zm_laysGoes_l8 sc zo_F a0 v2 (0 : Int32) h1 )
set_option maxRecDepth 4000 in
theorem zm_laysGoes_l8_ok (sc : zX) (d : Nat) (hd : 5 ≤ d) : ∀ (n : Nat) (y5 : Nat) (y6 : Int32) (y7 : Int32) (h8 : zH) (ro_ : Unit) (ho_ : zH),  zm_laysGoes_l8 sc n y5 y6 y7 h8  = some (ro_, ho_) → zq_wp sc (d + 1) 255 8 [some (.ref y5), some (.int y6), some (.int y7)] [] h8 (none, ho_) := by
  intro n
  induction n with
  | zero => intro y5 y6 y7 h8 ro_ ho_ hf; cases hf
  | succ n ih =>
    intro y5 y6 y7 h8 ro_ ho_ hf
    refine zq_wg 2 (pc' := 10) (lv' := [some (.ref y5), some (.int y6), some (.int y7)]) (st' := [.int (3 : Int32), .int y7]) (h' := h8) rfl ?_
    refine zr_if ((3 : Int32) ≤ y7) 37 13 (st' := []) rfl rfl (fun b9 => ?_) (fun b9 => ?_)
    · have hf := zo_t hf b9
      exact zr_rv rfl rfl hf
    · have hf := zo_f hf b9
      refine zq_wg 1 (pc' := 14) (lv' := [some (.ref y5), some (.int y6), some (.int y7)]) (st' := [.ref y5]) (h' := h8) rfl ?_
      obtain ⟨v10, e11, hf⟩ := zo_b_s hf
      refine zr_gR rfl rfl (by decide) rfl e11 ?_
      refine zq_wg 4 (pc' := 21) (lv' := [some (.ref y5), some (.int y6), some (.int y7)]) (st' := [.ref y5, .int y6, .ref y5, .int y7, .ref v10]) (h' := h8) rfl ?_
      obtain ⟨v12, e13, hf⟩ := zo_b_s hf
      refine zr_gR rfl rfl (by decide) rfl e13 ?_
      refine zq_wg 1 (pc' := 25) (lv' := [some (.ref y5), some (.int y6), some (.int y7)]) (st' := [.int (4 : Int32), .ref v12, .int y6, .ref y5, .int y7, .ref v10]) (h' := h8) rfl ?_
      obtain ⟨v14, e15, hf⟩ := zo_b_s hf
      refine zr_iald rfl e15 ?_
      refine zq_wg 1 (pc' := 27) (lv' := [some (.ref y5), some (.int y6), some (.int y7)]) (st' := [.int y7, .int v14, .int y6, .ref y5, .int y7, .ref v10]) (h' := h8) rfl ?_
      obtain ⟨e19, v17, h16, e18, hf⟩ := zo_v_s hf
      refine zr_cv zq_m218 [.int y6, .int v14, .int y7] [.int y7, .ref v10] rfl rfl rfl rfl rfl (Nat.le_of_ble_eq_true rfl) (Nat.le_of_ble_eq_true rfl) e19 (zm_goesBy_ok sc d (by omega) e18) ?_
      refine zq_wg 0 (pc' := 30) (lv' := [some (.ref y5), some (.int y6), some (.int y7)]) (st' := [.int v17, .int y7, .ref v10]) (h' := h16) rfl ?_
      obtain ⟨h20, e21, hf⟩ := zo_b_s hf
      refine zr_iast rfl e21 ?_
      refine zq_wg 2 (pc' := 8) (lv' := [some (.ref y5), some (.int y6), some (.int (y7 + (1 : Int32)))]) (st' := []) (h' := h20) rfl ?_
      exact ih y5 y6 (y7 + (1 : Int32)) h20 _ _ hf
set_option maxRecDepth 4000 in
theorem zm_laysGoes_ok (sc : zX) (d : Nat) (hd : 6 ≤ d) {a0 : Nat} {h : zH} {ro_ : Unit} {ho_ : zH} (hf : zm_laysGoes sc a0 h = some (ro_, ho_)) : zq_wm sc d 255 [.ref a0] h (none, ho_) := by
  unfold zm_laysGoes at hf
  obtain ⟨d, rfl⟩ : ∃ d', d = d' + 1 := ⟨d - 1, by omega⟩
  have hd : 5 ≤ d := by omega
  show zq_wp sc (d + 1) 255 0 [some (.ref a0), none, none] [] h _
  refine zq_wg 2 (pc' := 2) (lv' := [some (.ref a0), none, none]) (st' := [.int (0 : Int32), .ref a0]) (h' := h) rfl ?_
  obtain ⟨e4, v2, h1, e3, hf⟩ := zo_v_s hf
  refine zr_cv zq_m202 [.int (0 : Int32)] [] rfl rfl rfl rfl rfl (Nat.le_of_ble_eq_true rfl) (Nat.le_of_ble_eq_true rfl) e4 (zm_oursOf_ok sc d (by omega) e3) ?_
  refine zq_wg 0 (pc' := 5) (lv' := [some (.ref a0), none, none]) (st' := [.int v2]) (h' := h1) rfl ?_
  refine zq_wg 3 (pc' := 8) (lv' := [some (.ref a0), some (.int v2), some (.int (0 : Int32))]) (st' := []) (h' := h1) rfl ?_
  refine zm_laysGoes_l8_ok sc d hd zo_F a0 v2 (0 : Int32) h1 _ _ hf
set_option maxRecDepth 4000 in
def zm_rowsFrom_l44 (sc : zX) (rec : Nat → Int32 → Int32 → Int32 → zH → Option (Unit × zH)) : Nat → Nat → Int32 → Int32 → Int32 → Int32 → zH → Option (Unit × zH)
  | 0, _, _, _, _, _, _ => none
  | n + 1, y21, y22, y23, y24, y25, h26 => if (3 : Int32) ≤ y25 then (some ((), h26)) else (zo_v h26 y21 10 (zm_isEnd sc y21 y23 h26) (fun v29 h28 => zo_l (fun (x32 : Nat) (x33 : Int32) (x34 : Int32) (x35 : Int32) (x36 : Int32) (x37 : Int32) (h38 : zH) => zo_b (zo_gR h38 10 x32 25) (fun v39 => zo_b (zq_rdI sc h38 v39 ((17 : Int32) + x33)) (fun v41 => zo_l (fun (x43 : Nat) (x44 : Int32) (x45 : Int32) (x46 : Int32) (x47 : Int32) (h48 : zH) => zm_rowsFrom_l44 sc rec n x43 x44 x45 x46 (x47 + (1 : Int32)) h48 ) (fun j106_48 => if x37 = v41 then (zo_v h38 x32 10 (rec x32 (x33 + (1 : Int32)) x37 (((3 : Int32) * x35) + x36) h38) (fun w51 h50 => j106_48 x32 x33 x34 x35 x36 h50)) else (j106_48 x32 x33 x34 x35 x36 h38))))) (fun j75_38 => if v29 = 0 then (zo_b (zo_gR h28 10 y21 37) (fun v55 => zo_b (zq_rdI sc h28 v55 y25) (fun v57 => zo_v h28 y21 10 (zm_bounded sc y21 (y23 + v57) h28) (fun v60 h59 => j75_38 y21 y22 y23 y24 y25 v60 h59)))) else (j75_38 y21 y22 y23 y24 y25 y23 h28))))
set_option maxRecDepth 4000 in
def zm_rowsFrom_b (sc : zX) (rec : Nat → Int32 → Int32 → Int32 → zH → Option (Unit × zH)) (a0 : Nat) (a1 : Int32) (a2 : Int32) (a3 : Int32) (h : zH) : Option (Unit × zH) := zo_b (zo_gR h 10 a0 25) (fun v1 => zo_b (zq_rdI sc h v1 (16 : Int32)) (fun v3 => if a1 = v3 then (zo_b (zo_gI h 10 a0 41) (fun v6 => zo_l (fun (x8 : Nat) (x9 : Nat) (x10 : Int32) (h11 : zH) => zo_b (zo_pI h11 10 x9 42 x10) (fun h12 => zo_b (zo_gI h12 10 x8 41) (fun v14 => zo_b (zo_pI h12 10 x8 41 (v14 + (1 : Int32))) (fun h16 => some ((), h16))))) (fun j27_11 => if v6 = 0 then (j27_11 a0 a0 a3 h) else (zo_b (zo_gI h 10 a0 42) (fun v19 => j27_11 a0 a0 v19 h))))) else (zm_rowsFrom_l44 sc rec zo_F a0 a1 a2 a3 (0 : Int32) h )))
set_option maxRecDepth 4000 in
theorem zm_rowsFrom_l44_ok (sc : zX) (d : Nat) (hd : 1 ≤ d) (rec : Nat → Int32 → Int32 → Int32 → zH → Option (Unit × zH)) (hrec : ∀ (z0 : Nat) (z1 : Int32) (z2 : Int32) (z3 : Int32) (hz : zH) (rz : Unit) (hy : zH), rec z0 z1 z2 z3 hz = some (rz, hy) → zq_wm sc d 256 [.ref z0, .int z1, .int z2, .int z3] hz (none, hy)) : ∀ (n : Nat) (y21 : Nat) (y22 : Int32) (y23 : Int32) (y24 : Int32) (y25 : Int32) (h26 : zH) (ro_ : Unit) (ho_ : zH),  zm_rowsFrom_l44 sc rec n y21 y22 y23 y24 y25 h26  = some (ro_, ho_) → zq_wp sc (d + 1) 256 44 [some (.ref y21), some (.int y22), some (.int y23), some (.int y24), some (.int y25), none] [] h26 (none, ho_) := by
  intro n
  induction n with
  | zero => intro y21 y22 y23 y24 y25 h26 ro_ ho_ hf; cases hf
  | succ n ih =>
    intro y21 y22 y23 y24 y25 h26 ro_ ho_ hf
    refine zq_wg 2 (pc' := 47) (lv' := [some (.ref y21), some (.int y22), some (.int y23), some (.int y24), some (.int y25), none]) (st' := [.int (3 : Int32), .int y25]) (h' := h26) rfl ?_
    refine zr_if ((3 : Int32) ≤ y25) 112 50 (st' := []) rfl rfl (fun b27 => ?_) (fun b27 => ?_)
    · have hf := zo_t hf b27
      exact zr_rv rfl rfl hf
    · have hf := zo_f hf b27
      refine zq_wg 2 (pc' := 52) (lv' := [some (.ref y21), some (.int y22), some (.int y23), some (.int y24), some (.int y25), none]) (st' := [.int y23, .ref y21]) (h' := h26) rfl ?_
      obtain ⟨e31, v29, h28, e30, hf⟩ := zo_v_s hf
      refine zr_cv zq_m214 [.int y23] [] rfl rfl rfl rfl rfl (Nat.le_of_ble_eq_true rfl) (Nat.le_of_ble_eq_true rfl) e31 (zm_isEnd_ok sc d (by omega) e30) ?_
      refine zq_wg 0 (pc' := 55) (lv' := [some (.ref y21), some (.int y22), some (.int y23), some (.int y24), some (.int y25), none]) (st' := [.int v29]) (h' := h28) rfl ?_
      obtain ⟨j75_38, hjj75_38, hf⟩ := zo_lj hf
      have kj75_38 : ∀ (x32 : Nat) (x33 : Int32) (x34 : Int32) (x35 : Int32) (x36 : Int32) (x37 : Int32) (h38 : zH), j75_38 x32 x33 x34 x35 x36 x37 h38 = some (ro_, ho_) → zq_wp sc (d + 1) 256 75 [some (.ref x32), some (.int x33), some (.int x34), some (.int x35), some (.int x36), none] [.int x37] h38 (none, ho_) := by
        intro x32 x33 x34 x35 x36 x37 h38 hf
        rw [hjj75_38] at hf
        refine zq_wg 3 (pc' := 80) (lv' := [some (.ref x32), some (.int x33), some (.int x34), some (.int x35), some (.int x36), some (.int x37)]) (st' := [.ref x32, .int x37]) (h' := h38) rfl ?_
        obtain ⟨v39, e40, hf⟩ := zo_b_s hf
        refine zr_gR rfl rfl (by decide) rfl e40 ?_
        refine zq_wg 3 (pc' := 87) (lv' := [some (.ref x32), some (.int x33), some (.int x34), some (.int x35), some (.int x36), some (.int x37)]) (st' := [.int ((17 : Int32) + x33), .ref v39, .int x37]) (h' := h38) rfl ?_
        obtain ⟨v41, e42, hf⟩ := zo_b_s hf
        refine zr_iald rfl e42 ?_
        obtain ⟨j106_48, hjj106_48, hf⟩ := zo_lj hf
        have kj106_48 : ∀ (x43 : Nat) (x44 : Int32) (x45 : Int32) (x46 : Int32) (x47 : Int32) (h48 : zH), j106_48 x43 x44 x45 x46 x47 h48 = some (ro_, ho_) → zq_wp sc (d + 1) 256 106 [some (.ref x43), some (.int x44), some (.int x45), some (.int x46), some (.int x47), none] [] h48 (none, ho_) := by
          intro x43 x44 x45 x46 x47 h48 hf
          rw [hjj106_48] at hf
          refine zq_wg 2 (pc' := 44) (lv' := [some (.ref x43), some (.int x44), some (.int x45), some (.int x46), some (.int (x47 + (1 : Int32))), none]) (st' := []) (h' := h48) rfl ?_
          exact ih x43 x44 x45 x46 (x47 + (1 : Int32)) h48 _ _ hf
        refine zr_if (x37 = v41) 91 106 (st' := []) rfl rfl (fun b49 => ?_) (fun b49 => ?_)
        · have hf := zo_t hf b49
          refine zq_wg 10 (pc' := 103) (lv' := [some (.ref x32), some (.int x33), some (.int x34), some (.int x35), some (.int x36), some (.int x37)]) (st' := [.int (((3 : Int32) * x35) + x36), .int x37, .int (x33 + (1 : Int32)), .ref x32]) (h' := h38) rfl ?_
          obtain ⟨e53, w51, h50, e52, hf⟩ := zo_v_s hf
          refine zr_cv zq_m256 [.int (x33 + (1 : Int32)), .int x37, .int (((3 : Int32) * x35) + x36)] [] rfl rfl rfl rfl rfl (Nat.le_of_ble_eq_true rfl) (Nat.le_of_ble_eq_true rfl) e53 (hrec x32 (x33 + (1 : Int32)) x37 (((3 : Int32) * x35) + x36) h38 _ _ e52) ?_
          refine zq_wg 0 (pc' := 106) (lv' := [some (.ref x32), some (.int x33), some (.int x34), some (.int x35), some (.int x36), some (.int x37)]) (st' := []) (h' := h50) rfl ?_
          refine zq_fg [some (.ref x32), some (.int x33), some (.int x34), some (.int x35), some (.int x36), none] (zq_lvle_s (zq_lvle_s (zq_lvle_s (zq_lvle_s (zq_lvle_s (zq_lvle_n zq_lvle_nil)))))) ?_
          exact kj106_48 x32 x33 x34 x35 x36 h50 hf
        · have hf := zo_f hf b49
          refine zq_fg [some (.ref x32), some (.int x33), some (.int x34), some (.int x35), some (.int x36), none] (zq_lvle_s (zq_lvle_s (zq_lvle_s (zq_lvle_s (zq_lvle_s (zq_lvle_n zq_lvle_nil)))))) ?_
          exact kj106_48 x32 x33 x34 x35 x36 h38 hf
      refine zr_if (v29 = 0) 62 58 (st' := []) rfl rfl (fun b54 => ?_) (fun b54 => ?_)
      · have hf := zo_t hf b54
        refine zq_wg 3 (pc' := 65) (lv' := [some (.ref y21), some (.int y22), some (.int y23), some (.int y24), some (.int y25), none]) (st' := [.ref y21, .int y23, .ref y21]) (h' := h28) rfl ?_
        obtain ⟨v55, e56, hf⟩ := zo_b_s hf
        refine zr_gR rfl rfl (by decide) rfl e56 ?_
        refine zq_wg 1 (pc' := 70) (lv' := [some (.ref y21), some (.int y22), some (.int y23), some (.int y24), some (.int y25), none]) (st' := [.int y25, .ref v55, .int y23, .ref y21]) (h' := h28) rfl ?_
        obtain ⟨v57, e58, hf⟩ := zo_b_s hf
        refine zr_iald rfl e58 ?_
        refine zq_wg 1 (pc' := 72) (lv' := [some (.ref y21), some (.int y22), some (.int y23), some (.int y24), some (.int y25), none]) (st' := [.int (y23 + v57), .ref y21]) (h' := h28) rfl ?_
        obtain ⟨e62, v60, h59, e61, hf⟩ := zo_v_s hf
        refine zr_cv zq_m219 [.int (y23 + v57)] [] rfl rfl rfl rfl rfl (Nat.le_of_ble_eq_true rfl) (Nat.le_of_ble_eq_true rfl) e62 (zm_bounded_ok sc d (by omega) e61) ?_
        refine zq_wg 0 (pc' := 75) (lv' := [some (.ref y21), some (.int y22), some (.int y23), some (.int y24), some (.int y25), none]) (st' := [.int v60]) (h' := h59) rfl ?_
        exact kj75_38 y21 y22 y23 y24 y25 v60 h59 hf
      · have hf := zo_f hf b54
        refine zq_wg 2 (pc' := 75) (lv' := [some (.ref y21), some (.int y22), some (.int y23), some (.int y24), some (.int y25), none]) (st' := [.int y23]) (h' := h28) rfl ?_
        exact kj75_38 y21 y22 y23 y24 y25 y23 h28 hf
set_option maxRecDepth 4000 in
theorem zm_rowsFrom_bok (sc : zX) (d : Nat) (hd : 1 ≤ d) (rec : Nat → Int32 → Int32 → Int32 → zH → Option (Unit × zH)) (hrec : ∀ (z0 : Nat) (z1 : Int32) (z2 : Int32) (z3 : Int32) (hz : zH) (rz : Unit) (hy : zH), rec z0 z1 z2 z3 hz = some (rz, hy) → zq_wm sc d 256 [.ref z0, .int z1, .int z2, .int z3] hz (none, hy)) (a0 : Nat) (a1 : Int32) (a2 : Int32) (a3 : Int32) (h : zH) (ro_ : Unit) (ho_ : zH) (hf : zm_rowsFrom_b sc rec a0 a1 a2 a3 h = some (ro_, ho_)) : zq_wm sc (d + 1) 256 [.ref a0, .int a1, .int a2, .int a3] h (none, ho_) := by
  unfold zm_rowsFrom_b at hf
  show zq_wp sc (d + 1) 256 0 [some (.ref a0), some (.int a1), some (.int a2), some (.int a3), none, none] [] h _
  refine zq_wg 2 (pc' := 2) (lv' := [some (.ref a0), some (.int a1), some (.int a2), some (.int a3), none, none]) (st' := [.ref a0, .int a1]) (h' := h) rfl ?_
  obtain ⟨v1, e2, hf⟩ := zo_b_s hf
  refine zr_gR rfl rfl (by decide) rfl e2 ?_
  refine zq_wg 1 (pc' := 7) (lv' := [some (.ref a0), some (.int a1), some (.int a2), some (.int a3), none, none]) (st' := [.int (16 : Int32), .ref v1, .int a1]) (h' := h) rfl ?_
  obtain ⟨v3, e4, hf⟩ := zo_b_s hf
  refine zr_iald rfl e4 ?_
  refine zr_if (a1 = v3) 11 41 (st' := []) rfl rfl (fun b5 => ?_) (fun b5 => ?_)
  · have hf := zo_t hf b5
    refine zq_wg 2 (pc' := 13) (lv' := [some (.ref a0), some (.int a1), some (.int a2), some (.int a3), none, none]) (st' := [.ref a0, .ref a0]) (h' := h) rfl ?_
    obtain ⟨v6, e7, hf⟩ := zo_b_s hf
    refine zr_gI rfl rfl (by decide) rfl e7 ?_
    obtain ⟨j27_11, hjj27_11, hf⟩ := zo_lj hf
    have kj27_11 : ∀ (x8 : Nat) (x9 : Nat) (x10 : Int32) (h11 : zH), j27_11 x8 x9 x10 h11 = some (ro_, ho_) → zq_wp sc (d + 1) 256 27 [some (.ref x8), none, none, none, none, none] [.int x10, .ref x9] h11 (none, ho_) := by
      intro x8 x9 x10 h11 hf
      rw [hjj27_11] at hf
      obtain ⟨h12, e13, hf⟩ := zo_b_s hf
      refine zr_pI rfl rfl (by decide) rfl rfl e13 ?_
      refine zq_wg 2 (pc' := 32) (lv' := [some (.ref x8), none, none, none, none, none]) (st' := [.ref x8, .ref x8]) (h' := h12) rfl ?_
      obtain ⟨v14, e15, hf⟩ := zo_b_s hf
      refine zr_gI rfl rfl (by decide) rfl e15 ?_
      refine zq_wg 2 (pc' := 37) (lv' := [some (.ref x8), none, none, none, none, none]) (st' := [.int (v14 + (1 : Int32)), .ref x8]) (h' := h12) rfl ?_
      obtain ⟨h16, e17, hf⟩ := zo_b_s hf
      refine zr_pI rfl rfl (by decide) rfl rfl e17 ?_
      exact zr_rv rfl rfl hf
    refine zr_if (v6 = 0) 19 23 (st' := [.ref a0]) rfl rfl (fun b18 => ?_) (fun b18 => ?_)
    · have hf := zo_t hf b18
      refine zq_wg 2 (pc' := 27) (lv' := [some (.ref a0), some (.int a1), some (.int a2), some (.int a3), none, none]) (st' := [.int a3, .ref a0]) (h' := h) rfl ?_
      refine zq_fg [some (.ref a0), none, none, none, none, none] (zq_lvle_s (zq_lvle_n (zq_lvle_n (zq_lvle_n (zq_lvle_s (zq_lvle_s zq_lvle_nil)))))) ?_
      exact kj27_11 a0 a0 a3 h hf
    · have hf := zo_f hf b18
      refine zq_wg 1 (pc' := 24) (lv' := [some (.ref a0), some (.int a1), some (.int a2), some (.int a3), none, none]) (st' := [.ref a0, .ref a0]) (h' := h) rfl ?_
      obtain ⟨v19, e20, hf⟩ := zo_b_s hf
      refine zr_gI rfl rfl (by decide) rfl e20 ?_
      refine zq_fg [some (.ref a0), none, none, none, none, none] (zq_lvle_s (zq_lvle_n (zq_lvle_n (zq_lvle_n (zq_lvle_s (zq_lvle_s zq_lvle_nil)))))) ?_
      exact kj27_11 a0 a0 v19 h hf
  · have hf := zo_f hf b5
    refine zq_wg 2 (pc' := 44) (lv' := [some (.ref a0), some (.int a1), some (.int a2), some (.int a3), some (.int (0 : Int32)), none]) (st' := []) (h' := h) rfl ?_
    refine zm_rowsFrom_l44_ok sc d hd rec hrec zo_F a0 a1 a2 a3 (0 : Int32) h _ _ hf
def zm_rowsFrom (sc : zX) : Nat → Nat → Int32 → Int32 → Int32 → zH → Option (Unit × zH)
  | 0, _, _, _, _, _ => none
  | n + 1, a0, a1, a2, a3, h => zm_rowsFrom_b sc (zm_rowsFrom sc n) a0 a1 a2 a3 h
theorem zm_rowsFrom_ok (sc : zX) : ∀ (n d : Nat) (hd : n + 2 ≤ d) {a0 : Nat} {a1 : Int32} {a2 : Int32} {a3 : Int32} {h : zH} {ro_ : Unit} {ho_ : zH} (hf : zm_rowsFrom sc n a0 a1 a2 a3 h = some (ro_, ho_)), zq_wm sc d 256 [.ref a0, .int a1, .int a2, .int a3] h (none, ho_) := by
  intro n
  induction n with
  | zero => intro d hd a0 a1 a2 a3 h ro_ ho_ hf; cases hf
  | succ n ih =>
    intro d hd a0 a1 a2 a3 h ro_ ho_ hf
    obtain ⟨d, rfl⟩ : ∃ d', d = d' + 1 := ⟨d - 1, by omega⟩
    exact zm_rowsFrom_bok sc d (by omega) (zm_rowsFrom sc n) (fun z0 z1 z2 z3 hz rz hy hf => ih d (by omega) hf) a0 a1 a2 a3 h ro_ ho_ hf
set_option maxRecDepth 4000 in
def zm_orders_l86 (sc : zX) : Nat → Int32 → Int32 → Int32 → zH → (Int32 → zH → Option (Int32 × zH)) → Option (Int32 × zH)
  | 0, _, _, _, _, _ => none
  | n + 1, y41, y42, y43, h44, k101 => if y43 ≤ y41 then (k101 y42 h44) else (zo_b (zo_dv y42 (3 : Int32)) (fun v46 => zm_orders_l86 sc n y41 v46 (y43 + (-1 : Int32)) h44 k101))
set_option maxRecDepth 4000 in
def zm_orders (sc : zX) (a0 : Nat) (a1 : Int32) (h : zH) : Option (Int32 × zH) := zo_b (zo_pI h 10 a0 0 (0 : Int32)) (fun h1 => zo_b (zo_gR h1 10 a0 25) (fun v3 => zo_b (zq_rdI sc h1 v3 (16 : Int32)) (fun v5 => zo_c (zm_within sc a1 (-1 : Int32) (v5 - (1 : Int32)) h1) (fun v8 h7 => if v8 = 0 then (some ((-2 : Int32), h7)) else (zo_v h7 a0 10 (zm_laysGoes sc a0 h7) (fun w12 h11 => zo_b (zo_pI h11 10 a0 41 (0 : Int32)) (fun h15 => zo_b (zo_gR h15 10 a0 25) (fun v17 => zo_b (zq_rdI sc h15 v17 (1 : Int32)) (fun v19 => zo_v h15 a0 10 (zm_rowsFrom sc 64 a0 (0 : Int32) v19 (0 : Int32) h15) (fun w22 h21 => zo_l (fun (x25 : Nat) (x26 : Int32) (h27 : zH) => if 0 ≤ x26 then (some ((-2 : Int32), h27)) else (zo_b (zo_gI h27 10 x25 41) (fun v29 => some (v29, h27)))) (fun j57_27 => if a1 < 0 then (j57_27 a0 a1 h21) else (zo_b (zo_gI h21 10 a0 41) (fun v32 => if v32 = 0 then (j57_27 a0 a1 h21) else (zo_b (zo_gI h21 10 a0 42) (fun v35 => zo_b (zo_gR h21 10 a0 25) (fun v37 => zo_b (zq_rdI sc h21 v37 (16 : Int32)) (fun v39 => zm_orders_l86 sc zo_F a1 v35 (v39 - (1 : Int32)) h21 (fun (x48 : Int32) (h49 : zH) => zo_b (zo_rm x48 (3 : Int32)) (fun v50 => some (v50, h49))))))))))))))))))))
set_option maxRecDepth 4000 in
theorem zm_orders_l86_ok (sc : zX) (d : Nat) (hd : 66 ≤ d) : ∀ (n : Nat) (y41 : Int32) (y42 : Int32) (y43 : Int32) (h44 : zH) (k101 : Int32 → zH → Option (Int32 × zH)) (ro_ : Int32) (ho_ : zH), (∀ (z0 : Int32) (hz : zH), k101 z0 hz = some (ro_, ho_) → zq_wp sc (d + 1) 254 101 [none, none, some (.int z0), none] [] hz (some (.int ro_), ho_)) → zm_orders_l86 sc n y41 y42 y43 h44 k101 = some (ro_, ho_) → zq_wp sc (d + 1) 254 86 [none, some (.int y41), some (.int y42), some (.int y43)] [] h44 (some (.int ro_), ho_) := by
  intro n
  induction n with
  | zero => intro y41 y42 y43 h44 k101 ro_ ho_ hk101 hf; cases hf
  | succ n ih =>
    intro y41 y42 y43 h44 k101 ro_ ho_ hk101 hf
    refine zq_wg 2 (pc' := 88) (lv' := [none, some (.int y41), some (.int y42), some (.int y43)]) (st' := [.int y41, .int y43]) (h' := h44) rfl ?_
    refine zr_if (y43 ≤ y41) 101 91 (st' := []) rfl rfl (fun b45 => ?_) (fun b45 => ?_)
    · have hf := zo_t hf b45
      refine zq_fg [none, none, some (.int y42), none] (zq_lvle_s (zq_lvle_n (zq_lvle_s (zq_lvle_n zq_lvle_nil)))) ?_
      exact hk101 y42 h44 hf
    · have hf := zo_f hf b45
      refine zq_wg 2 (pc' := 93) (lv' := [none, some (.int y41), some (.int y42), some (.int y43)]) (st' := [.int (3 : Int32), .int y42]) (h' := h44) rfl ?_
      obtain ⟨v46, e47, hf⟩ := zo_b_s hf
      refine zr_idiv rfl e47 ?_
      refine zq_wg 3 (pc' := 86) (lv' := [none, some (.int y41), some (.int v46), some (.int (y43 + (-1 : Int32)))]) (st' := []) (h' := h44) rfl ?_
      exact ih y41 v46 (y43 + (-1 : Int32)) h44 _ _ _ hk101 hf
set_option maxRecDepth 4000 in
theorem zm_orders_ok (sc : zX) (d : Nat) (hd : 67 ≤ d) {a0 : Nat} {a1 : Int32} {h : zH} {ro_ : Int32} {ho_ : zH} (hf : zm_orders sc a0 a1 h = some (ro_, ho_)) : zq_wm sc d 254 [.ref a0, .int a1] h (some (.int ro_), ho_) := by
  unfold zm_orders at hf
  obtain ⟨d, rfl⟩ : ∃ d', d = d' + 1 := ⟨d - 1, by omega⟩
  have hd : 66 ≤ d := by omega
  show zq_wp sc (d + 1) 254 0 [some (.ref a0), some (.int a1), none, none] [] h _
  refine zq_wg 2 (pc' := 2) (lv' := [some (.ref a0), some (.int a1), none, none]) (st' := [.int (0 : Int32), .ref a0]) (h' := h) rfl ?_
  obtain ⟨h1, e2, hf⟩ := zo_b_s hf
  refine zr_pI rfl rfl (by decide) rfl rfl e2 ?_
  refine zq_wg 3 (pc' := 8) (lv' := [some (.ref a0), some (.int a1), none, none]) (st' := [.ref a0, .int (-1 : Int32), .int a1]) (h' := h1) rfl ?_
  obtain ⟨v3, e4, hf⟩ := zo_b_s hf
  refine zr_gR rfl rfl (by decide) rfl e4 ?_
  refine zq_wg 1 (pc' := 13) (lv' := [some (.ref a0), some (.int a1), none, none]) (st' := [.int (16 : Int32), .ref v3, .int (-1 : Int32), .int a1]) (h' := h1) rfl ?_
  obtain ⟨v5, e6, hf⟩ := zo_b_s hf
  refine zr_iald rfl e6 ?_
  refine zq_wg 2 (pc' := 16) (lv' := [some (.ref a0), some (.int a1), none, none]) (st' := [.int (v5 - (1 : Int32)), .int (-1 : Int32), .int a1]) (h' := h1) rfl ?_
  obtain ⟨v8, h7, e9, hf⟩ := zo_c_s hf
  refine zr_cs zq_m173 [.int a1, .int (-1 : Int32), .int (v5 - (1 : Int32))] [] rfl rfl (by decide) rfl rfl rfl (Nat.le_of_ble_eq_true rfl) (Nat.le_of_ble_eq_true rfl) (zm_within_ok sc d (by omega) e9) ?_
  refine zq_wg 0 (pc' := 19) (lv' := [some (.ref a0), some (.int a1), none, none]) (st' := [.int v8]) (h' := h7) rfl ?_
  refine zr_if (v8 = 0) 22 25 (st' := []) rfl rfl (fun b10 => ?_) (fun b10 => ?_)
  · have hf := zo_t hf b10
    refine zq_wg 1 (pc' := 24) (lv' := [some (.ref a0), some (.int a1), none, none]) (st' := [.int (-2 : Int32)]) (h' := h7) rfl ?_
    exact zr_ri rfl rfl rfl hf
  · have hf := zo_f hf b10
    refine zq_wg 1 (pc' := 26) (lv' := [some (.ref a0), some (.int a1), none, none]) (st' := [.ref a0]) (h' := h7) rfl ?_
    obtain ⟨e14, w12, h11, e13, hf⟩ := zo_v_s hf
    refine zr_cv zq_m255 [] [] rfl rfl rfl rfl rfl (Nat.le_of_ble_eq_true rfl) (Nat.le_of_ble_eq_true rfl) e14 (zm_laysGoes_ok sc d (by omega) e13) ?_
    refine zq_wg 0 (pc' := 29) (lv' := [some (.ref a0), some (.int a1), none, none]) (st' := []) (h' := h11) rfl ?_
    refine zq_wg 2 (pc' := 31) (lv' := [some (.ref a0), some (.int a1), none, none]) (st' := [.int (0 : Int32), .ref a0]) (h' := h11) rfl ?_
    obtain ⟨h15, e16, hf⟩ := zo_b_s hf
    refine zr_pI rfl rfl (by decide) rfl rfl e16 ?_
    refine zq_wg 3 (pc' := 37) (lv' := [some (.ref a0), some (.int a1), none, none]) (st' := [.ref a0, .int (0 : Int32), .ref a0]) (h' := h15) rfl ?_
    obtain ⟨v17, e18, hf⟩ := zo_b_s hf
    refine zr_gR rfl rfl (by decide) rfl e18 ?_
    refine zq_wg 1 (pc' := 41) (lv' := [some (.ref a0), some (.int a1), none, none]) (st' := [.int (1 : Int32), .ref v17, .int (0 : Int32), .ref a0]) (h' := h15) rfl ?_
    obtain ⟨v19, e20, hf⟩ := zo_b_s hf
    refine zr_iald rfl e20 ?_
    refine zq_wg 1 (pc' := 43) (lv' := [some (.ref a0), some (.int a1), none, none]) (st' := [.int (0 : Int32), .int v19, .int (0 : Int32), .ref a0]) (h' := h15) rfl ?_
    obtain ⟨e24, w22, h21, e23, hf⟩ := zo_v_s hf
    refine zr_cv zq_m256 [.int (0 : Int32), .int v19, .int (0 : Int32)] [] rfl rfl rfl rfl rfl (Nat.le_of_ble_eq_true rfl) (Nat.le_of_ble_eq_true rfl) e24 (zm_rowsFrom_ok sc 64 d (by omega) e23) ?_
    refine zq_wg 0 (pc' := 46) (lv' := [some (.ref a0), some (.int a1), none, none]) (st' := []) (h' := h21) rfl ?_
    refine zq_wg 1 (pc' := 47) (lv' := [some (.ref a0), some (.int a1), none, none]) (st' := [.int a1]) (h' := h21) rfl ?_
    obtain ⟨j57_27, hjj57_27, hf⟩ := zo_lj hf
    have kj57_27 : ∀ (x25 : Nat) (x26 : Int32) (h27 : zH), j57_27 x25 x26 h27 = some (ro_, ho_) → zq_wp sc (d + 1) 254 57 [some (.ref x25), some (.int x26), none, none] [] h27 (some (.int ro_), ho_) := by
      intro x25 x26 h27 hf
      rw [hjj57_27] at hf
      refine zq_wg 1 (pc' := 58) (lv' := [some (.ref x25), some (.int x26), none, none]) (st' := [.int x26]) (h' := h27) rfl ?_
      refine zr_if (0 ≤ x26) 68 61 (st' := []) rfl rfl (fun b28 => ?_) (fun b28 => ?_)
      · have hf := zo_t hf b28
        refine zq_wg 1 (pc' := 70) (lv' := [some (.ref x25), some (.int x26), none, none]) (st' := [.int (-2 : Int32)]) (h' := h27) rfl ?_
        exact zr_ri rfl rfl rfl hf
      · have hf := zo_f hf b28
        refine zq_wg 1 (pc' := 62) (lv' := [some (.ref x25), some (.int x26), none, none]) (st' := [.ref x25]) (h' := h27) rfl ?_
        obtain ⟨v29, e30, hf⟩ := zo_b_s hf
        refine zr_gI rfl rfl (by decide) rfl e30 ?_
        refine zq_wg 1 (pc' := 70) (lv' := [some (.ref x25), some (.int x26), none, none]) (st' := [.int v29]) (h' := h27) rfl ?_
        exact zr_ri rfl rfl rfl hf
    refine zr_if (a1 < 0) 57 50 (st' := []) rfl rfl (fun b31 => ?_) (fun b31 => ?_)
    · have hf := zo_t hf b31
      exact kj57_27 a0 a1 h21 hf
    · have hf := zo_f hf b31
      refine zq_wg 1 (pc' := 51) (lv' := [some (.ref a0), some (.int a1), none, none]) (st' := [.ref a0]) (h' := h21) rfl ?_
      obtain ⟨v32, e33, hf⟩ := zo_b_s hf
      refine zr_gI rfl rfl (by decide) rfl e33 ?_
      refine zr_if (v32 = 0) 57 71 (st' := []) rfl rfl (fun b34 => ?_) (fun b34 => ?_)
      · have hf := zo_t hf b34
        exact kj57_27 a0 a1 h21 hf
      · have hf := zo_f hf b34
        refine zq_wg 1 (pc' := 72) (lv' := [some (.ref a0), some (.int a1), none, none]) (st' := [.ref a0]) (h' := h21) rfl ?_
        obtain ⟨v35, e36, hf⟩ := zo_b_s hf
        refine zr_gI rfl rfl (by decide) rfl e36 ?_
        refine zq_wg 2 (pc' := 77) (lv' := [some (.ref a0), some (.int a1), some (.int v35), none]) (st' := [.ref a0]) (h' := h21) rfl ?_
        obtain ⟨v37, e38, hf⟩ := zo_b_s hf
        refine zr_gR rfl rfl (by decide) rfl e38 ?_
        refine zq_wg 1 (pc' := 82) (lv' := [some (.ref a0), some (.int a1), some (.int v35), none]) (st' := [.int (16 : Int32), .ref v37]) (h' := h21) rfl ?_
        obtain ⟨v39, e40, hf⟩ := zo_b_s hf
        refine zr_iald rfl e40 ?_
        refine zq_wg 3 (pc' := 86) (lv' := [some (.ref a0), some (.int a1), some (.int v35), some (.int (v39 - (1 : Int32)))]) (st' := []) (h' := h21) rfl ?_
        refine zq_fg [none, some (.int a1), some (.int v35), some (.int (v39 - (1 : Int32)))] (zq_lvle_n (zq_lvle_s (zq_lvle_s (zq_lvle_s zq_lvle_nil)))) ?_
        refine zm_orders_l86_ok sc d hd zo_F a1 v35 (v39 - (1 : Int32)) h21 _ _ _ ?_ hf
        · intro x48 h49 hf
          refine zq_wg 2 (pc' := 103) (lv' := [none, none, some (.int x48), none]) (st' := [.int (3 : Int32), .int x48]) (h' := h49) rfl ?_
          obtain ⟨v50, e51, hf⟩ := zo_b_s hf
          refine zr_irem rfl e51 ?_
          exact zr_ri rfl rfl rfl hf
set_option maxRecDepth 4000 in
def zm_offBy (sc : zX) (a0 : Nat) (a1 : Int32) (a2 : Int32) (a3 : Int32) (h : zH) : Option (Int32 × zH) := zo_b (zo_gR h 10 a0 37) (fun v1 => zo_b (zq_rdI sc h v1 a3) (fun v3 => zo_v h a0 10 (zm_bounded sc a0 (a2 + v3) h) (fun v6 h5 => zo_b (zo_gR h5 10 a0 43) (fun v9 => zo_b (zq_rdI sc h5 v9 (((41 : Int32) * a1) + v6)) (fun v11 => some (((1 : Int32) + v11), h5))))))
set_option maxRecDepth 4000 in
theorem zm_offBy_ok (sc : zX) (d : Nat) (hd : 2 ≤ d) {a0 : Nat} {a1 : Int32} {a2 : Int32} {a3 : Int32} {h : zH} {ro_ : Int32} {ho_ : zH} (hf : zm_offBy sc a0 a1 a2 a3 h = some (ro_, ho_)) : zq_wm sc d 259 [.ref a0, .int a1, .int a2, .int a3] h (some (.int ro_), ho_) := by
  unfold zm_offBy at hf
  obtain ⟨d, rfl⟩ : ∃ d', d = d' + 1 := ⟨d - 1, by omega⟩
  have hd : 1 ≤ d := by omega
  show zq_wp sc (d + 1) 259 0 [some (.ref a0), some (.int a1), some (.int a2), some (.int a3), none] [] h _
  refine zq_wg 3 (pc' := 3) (lv' := [some (.ref a0), some (.int a1), some (.int a2), some (.int a3), none]) (st' := [.ref a0, .int a2, .ref a0]) (h' := h) rfl ?_
  obtain ⟨v1, e2, hf⟩ := zo_b_s hf
  refine zr_gR rfl rfl (by decide) rfl e2 ?_
  refine zq_wg 1 (pc' := 7) (lv' := [some (.ref a0), some (.int a1), some (.int a2), some (.int a3), none]) (st' := [.int a3, .ref v1, .int a2, .ref a0]) (h' := h) rfl ?_
  obtain ⟨v3, e4, hf⟩ := zo_b_s hf
  refine zr_iald rfl e4 ?_
  refine zq_wg 1 (pc' := 9) (lv' := [some (.ref a0), some (.int a1), some (.int a2), some (.int a3), none]) (st' := [.int (a2 + v3), .ref a0]) (h' := h) rfl ?_
  obtain ⟨e8, v6, h5, e7, hf⟩ := zo_v_s hf
  refine zr_cv zq_m219 [.int (a2 + v3)] [] rfl rfl rfl rfl rfl (Nat.le_of_ble_eq_true rfl) (Nat.le_of_ble_eq_true rfl) e8 (zm_bounded_ok sc d (by omega) e7) ?_
  refine zq_wg 0 (pc' := 12) (lv' := [some (.ref a0), some (.int a1), some (.int a2), some (.int a3), none]) (st' := [.int v6]) (h' := h5) rfl ?_
  refine zq_wg 3 (pc' := 16) (lv' := [some (.ref a0), some (.int a1), some (.int a2), some (.int a3), some (.int v6)]) (st' := [.ref a0, .int (1 : Int32)]) (h' := h5) rfl ?_
  obtain ⟨v9, e10, hf⟩ := zo_b_s hf
  refine zr_gR rfl rfl (by decide) rfl e10 ?_
  refine zq_wg 5 (pc' := 26) (lv' := [some (.ref a0), some (.int a1), some (.int a2), some (.int a3), some (.int v6)]) (st' := [.int (((41 : Int32) * a1) + v6), .ref v9, .int (1 : Int32)]) (h' := h5) rfl ?_
  obtain ⟨v11, e12, hf⟩ := zo_b_s hf
  refine zr_iald rfl e12 ?_
  refine zq_wg 1 (pc' := 28) (lv' := [some (.ref a0), some (.int a1), some (.int a2), some (.int a3), some (.int v6)]) (st' := [.int ((1 : Int32) + v11)]) (h' := h5) rfl ?_
  exact zr_ri rfl rfl rfl hf
set_option maxRecDepth 4000 in
def zm_bestOff_l5 (sc : zX) : Nat → Nat → Int32 → Int32 → Int32 → Int32 → zH → Option (Int32 × zH)
  | 0, _, _, _, _, _, _ => none
  | n + 1, y1, y2, y3, y4, y5, h6 => if (3 : Int32) ≤ y5 then (some (y4, h6)) else (zo_v h6 y1 10 (zm_offBy sc y1 y2 y3 y5 h6) (fun v9 h8 => zo_v h8 y1 10 (zm_offBy sc y1 y2 y3 y4 h8) (fun v13 h12 => zo_l (if v9 ≤ v13 then y4 else y5) (fun (x16 : Int32) => zm_bestOff_l5 sc n y1 y2 y3 x16 (y5 + (1 : Int32)) h12 ))))
set_option maxRecDepth 4000 in
def zm_bestOff (sc : zX) (a0 : Nat) (a1 : Int32) (a2 : Int32) (h : zH) : Option (Int32 × zH) := zm_bestOff_l5 sc zo_F a0 a1 a2 (0 : Int32) (1 : Int32) h 
set_option maxRecDepth 4000 in
theorem zm_bestOff_l5_ok (sc : zX) (d : Nat) (hd : 2 ≤ d) : ∀ (n : Nat) (y1 : Nat) (y2 : Int32) (y3 : Int32) (y4 : Int32) (y5 : Int32) (h6 : zH) (ro_ : Int32) (ho_ : zH),  zm_bestOff_l5 sc n y1 y2 y3 y4 y5 h6  = some (ro_, ho_) → zq_wp sc (d + 1) 258 5 [some (.ref y1), some (.int y2), some (.int y3), some (.int y4), some (.int y5)] [] h6 (some (.int ro_), ho_) := by
  intro n
  induction n with
  | zero => intro y1 y2 y3 y4 y5 h6 ro_ ho_ hf; cases hf
  | succ n ih =>
    intro y1 y2 y3 y4 y5 h6 ro_ ho_ hf
    refine zq_wg 2 (pc' := 8) (lv' := [some (.ref y1), some (.int y2), some (.int y3), some (.int y4), some (.int y5)]) (st' := [.int (3 : Int32), .int y5]) (h' := h6) rfl ?_
    refine zr_if ((3 : Int32) ≤ y5) 42 11 (st' := []) rfl rfl (fun b7 => ?_) (fun b7 => ?_)
    · have hf := zo_t hf b7
      refine zq_wg 1 (pc' := 43) (lv' := [some (.ref y1), some (.int y2), some (.int y3), some (.int y4), some (.int y5)]) (st' := [.int y4]) (h' := h6) rfl ?_
      exact zr_ri rfl rfl rfl hf
    · have hf := zo_f hf b7
      refine zq_wg 4 (pc' := 16) (lv' := [some (.ref y1), some (.int y2), some (.int y3), some (.int y4), some (.int y5)]) (st' := [.int y5, .int y3, .int y2, .ref y1]) (h' := h6) rfl ?_
      obtain ⟨e11, v9, h8, e10, hf⟩ := zo_v_s hf
      refine zr_cv zq_m259 [.int y2, .int y3, .int y5] [] rfl rfl rfl rfl rfl (Nat.le_of_ble_eq_true rfl) (Nat.le_of_ble_eq_true rfl) e11 (zm_offBy_ok sc d (by omega) e10) ?_
      refine zq_wg 0 (pc' := 19) (lv' := [some (.ref y1), some (.int y2), some (.int y3), some (.int y4), some (.int y5)]) (st' := [.int v9]) (h' := h8) rfl ?_
      refine zq_wg 4 (pc' := 23) (lv' := [some (.ref y1), some (.int y2), some (.int y3), some (.int y4), some (.int y5)]) (st' := [.int y4, .int y3, .int y2, .ref y1, .int v9]) (h' := h8) rfl ?_
      obtain ⟨e15, v13, h12, e14, hf⟩ := zo_v_s hf
      refine zr_cv zq_m259 [.int y2, .int y3, .int y4] [.int v9] rfl rfl rfl rfl rfl (Nat.le_of_ble_eq_true rfl) (Nat.le_of_ble_eq_true rfl) e15 (zm_offBy_ok sc d (by omega) e14) ?_
      refine zq_wg 0 (pc' := 26) (lv' := [some (.ref y1), some (.int y2), some (.int y3), some (.int y4), some (.int y5)]) (st' := [.int v13, .int v9]) (h' := h12) rfl ?_
      obtain ⟨g35_16, hg35_16, hf⟩ := zo_lx hf
      have kg35_16 : ∀ (x16 : Int32), g35_16 x16 = some (ro_, ho_) → zq_wp sc (d + 1) 258 35 [some (.ref y1), some (.int y2), some (.int y3), some (.int y4), some (.int y5)] [.int x16] h12 (some (.int ro_), ho_) := by
        intro x16 hf
        rw [hg35_16] at hf
        refine zq_wg 3 (pc' := 5) (lv' := [some (.ref y1), some (.int y2), some (.int y3), some (.int x16), some (.int (y5 + (1 : Int32)))]) (st' := []) (h' := h12) rfl ?_
        exact ih y1 y2 y3 x16 (y5 + (1 : Int32)) h12 _ _ hf
      refine zr_if (v9 ≤ v13) 34 29 (st' := []) rfl rfl (fun b17 => ?_) (fun b17 => ?_)
      · have hf := zo_lt hf b17
        refine zq_wg 1 (pc' := 35) (lv' := [some (.ref y1), some (.int y2), some (.int y3), some (.int y4), some (.int y5)]) (st' := [.int y4]) (h' := h12) rfl ?_
        exact kg35_16 _ hf
      · have hf := zo_lf hf b17
        refine zq_wg 2 (pc' := 35) (lv' := [some (.ref y1), some (.int y2), some (.int y3), some (.int y4), some (.int y5)]) (st' := [.int y5]) (h' := h12) rfl ?_
        exact kg35_16 _ hf
set_option maxRecDepth 4000 in
theorem zm_bestOff_ok (sc : zX) (d : Nat) (hd : 3 ≤ d) {a0 : Nat} {a1 : Int32} {a2 : Int32} {h : zH} {ro_ : Int32} {ho_ : zH} (hf : zm_bestOff sc a0 a1 a2 h = some (ro_, ho_)) : zq_wm sc d 258 [.ref a0, .int a1, .int a2] h (some (.int ro_), ho_) := by
  unfold zm_bestOff at hf
  obtain ⟨d, rfl⟩ : ∃ d', d = d' + 1 := ⟨d - 1, by omega⟩
  have hd : 2 ≤ d := by omega
  show zq_wp sc (d + 1) 258 0 [some (.ref a0), some (.int a1), some (.int a2), none, none] [] h _
  refine zq_wg 4 (pc' := 5) (lv' := [some (.ref a0), some (.int a1), some (.int a2), some (.int (0 : Int32)), some (.int (1 : Int32))]) (st' := []) (h' := h) rfl ?_
  refine zm_bestOff_l5_ok sc d hd zo_F a0 a1 a2 (0 : Int32) (1 : Int32) h _ _ hf
set_option maxRecDepth 4000 in
def zm_putOff_l23 (sc : zX) : Nat → Nat → Int32 → Int32 → zH → (Nat → Int32 → zH → Option (Int32 × zH)) → Option (Int32 × zH)
  | 0, _, _, _, _, _ => none
  | n + 1, y11, y12, y13, h14, k54 => zo_v h14 y11 10 (zm_cells sc y11 h14) (fun v16 h15 => if v16 < y13 then (k54 y11 y12 h15) else (zo_b (zo_gR h15 10 y11 43) (fun v20 => zo_l (if y13 = 0 then (0 : Int32) else (1000 : Int32)) (fun (x22 : Int32) => zo_b (zq_wrX 1 h15 v20 y13 x22) (fun h23 => zm_putOff_l23 sc n y11 y12 (y13 + (1 : Int32)) h23 k54)))))
set_option maxRecDepth 4000 in
def zm_putOff_l64 (sc : zX) : Nat → Nat → Int32 → Int32 → Int32 → zH → (Nat → Int32 → Int32 → zH → Option (Int32 × zH)) → Option (Int32 × zH)
  | 0, _, _, _, _, _, _ => none
  | n + 1, y34, y35, y36, y37, h38, k145 => zo_v h38 y34 10 (zm_cells sc y34 h38) (fun v40 h39 => if v40 < y37 then (k145 y34 y35 y36 h39) else (zo_l (fun (x44 : Nat) (x45 : Int32) (x46 : Int32) (x47 : Int32) (x48 : Int32) (h49 : zH) => zo_b (zo_gR h49 10 x44 43) (fun v50 => zo_l (if x48 < (1000 : Int32) then x48 else (1000 : Int32)) (fun (x52 : Int32) => zo_b (zq_wrX 1 h49 v50 (((41 : Int32) * x46) + x47) x52) (fun h53 => zm_putOff_l64 sc n x44 x45 x46 (x47 + (1 : Int32)) h53 k145)))) (fun j110_49 => if y37 = 0 then (j110_49 y34 y35 y36 y37 (0 : Int32) h39) else (zo_v h39 y34 10 (zm_cells sc y34 h39) (fun v58 h57 => if y37 = v58 then (j110_49 y34 y35 y36 y37 (1000 : Int32) h57) else (zo_v h57 y34 10 (zm_bestOff sc y34 (y36 - (1 : Int32)) y37 h57) (fun v63 h62 => zo_v h62 y34 10 (zm_offBy sc y34 (y36 - (1 : Int32)) y37 v63 h62) (fun v67 h66 => j110_49 y34 y35 y36 y37 v67 h66))))))))
set_option maxRecDepth 4000 in
def zm_putOff_l56 (sc : zX) : Nat → Nat → Int32 → Int32 → zH → (Nat → Int32 → zH → Option (Int32 × zH)) → Option (Int32 × zH)
  | 0, _, _, _, _, _ => none
  | n + 1, y29, y30, y31, h32, k151 => if (60 : Int32) < y31 then (k151 y29 y30 h32) else (zm_putOff_l64 sc zo_F y29 y30 y31 (0 : Int32) h32 (fun (x70 : Nat) (x71 : Int32) (x72 : Int32) (h73 : zH) => zm_putOff_l56 sc n x70 x71 (x72 + (1 : Int32)) h73 k151))
set_option maxRecDepth 4000 in
def zm_putOff (sc : zX) (a0 : Nat) (a1 : Int32) (h : zH) : Option (Int32 × zH) := zo_b (zo_pI h 10 a0 0 (0 : Int32)) (fun h1 => zo_c (zm_within sc a1 (0 : Int32) (1 : Int32) h1) (fun v4 h3 => if v4 = 0 then (some ((-2 : Int32), h3)) else (zo_v h3 a0 10 (zm_laysGoes sc a0 h3) (fun w8 h7 => zm_putOff_l23 sc zo_F a0 a1 (0 : Int32) h7 (fun (x26 : Nat) (x27 : Int32) (h28 : zH) => zm_putOff_l56 sc zo_F x26 x27 (1 : Int32) h28 (fun (x74 : Nat) (x75 : Int32) (h76 : zH) => zo_b (zo_gR h76 10 x74 43) (fun v77 => zo_b (zo_gR h76 10 x74 25) (fun v79 => zo_b (zq_rdI sc h76 v79 (1 : Int32)) (fun v81 => zo_b (zq_rdI sc h76 v77 ((2460 : Int32) + v81)) (fun v83 => if x75 = 0 then (if v83 < (1000 : Int32) then (some (v83, h76)) else (some ((-1 : Int32), h76))) else (zo_b (zo_gR h76 10 x74 25) (fun v87 => zo_b (zq_rdI sc h76 v87 (1 : Int32)) (fun v89 => zo_v h76 x74 10 (zm_isEnd sc x74 v89 h76) (fun v92 h91 => if v92 = 0 then (zo_b (zo_gR h91 10 x74 25) (fun v96 => zo_b (zq_rdI sc h91 v96 (1 : Int32)) (fun v98 => zo_v h91 x74 10 (zm_bestOff sc x74 (59 : Int32) v98 h91) (fun v101 h100 => some (v101, h100))))) else (some ((-1 : Int32), h91))))))))))))))))
set_option maxRecDepth 4000 in
theorem zm_putOff_l23_ok (sc : zX) (d : Nat) (hd : 6 ≤ d) : ∀ (n : Nat) (y11 : Nat) (y12 : Int32) (y13 : Int32) (h14 : zH) (k54 : Nat → Int32 → zH → Option (Int32 × zH)) (ro_ : Int32) (ho_ : zH), (∀ (z0 : Nat) (z1 : Int32) (hz : zH), k54 z0 z1 hz = some (ro_, ho_) → zq_wp sc (d + 1) 257 54 [some (.ref z0), some (.int z1), none, none, none] [] hz (some (.int ro_), ho_)) → zm_putOff_l23 sc n y11 y12 y13 h14 k54 = some (ro_, ho_) → zq_wp sc (d + 1) 257 23 [some (.ref y11), some (.int y12), some (.int y13), none, none] [] h14 (some (.int ro_), ho_) := by
  intro n
  induction n with
  | zero => intro y11 y12 y13 h14 k54 ro_ ho_ hk54 hf; cases hf
  | succ n ih =>
    intro y11 y12 y13 h14 k54 ro_ ho_ hk54 hf
    refine zq_wg 2 (pc' := 25) (lv' := [some (.ref y11), some (.int y12), some (.int y13), none, none]) (st' := [.ref y11, .int y13]) (h' := h14) rfl ?_
    obtain ⟨e18, v16, h15, e17, hf⟩ := zo_v_s hf
    refine zr_cv zq_m215 [] [.int y13] rfl rfl rfl rfl rfl (Nat.le_of_ble_eq_true rfl) (Nat.le_of_ble_eq_true rfl) e18 (zm_cells_ok sc d (by omega) e17) ?_
    refine zq_wg 0 (pc' := 28) (lv' := [some (.ref y11), some (.int y12), some (.int y13), none, none]) (st' := [.int v16, .int y13]) (h' := h15) rfl ?_
    refine zr_if (v16 < y13) 54 31 (st' := []) rfl rfl (fun b19 => ?_) (fun b19 => ?_)
    · have hf := zo_t hf b19
      refine zq_fg [some (.ref y11), some (.int y12), none, none, none] (zq_lvle_s (zq_lvle_s (zq_lvle_n (zq_lvle_s (zq_lvle_s zq_lvle_nil))))) ?_
      exact hk54 y11 y12 h15 hf
    · have hf := zo_f hf b19
      refine zq_wg 1 (pc' := 32) (lv' := [some (.ref y11), some (.int y12), some (.int y13), none, none]) (st' := [.ref y11]) (h' := h15) rfl ?_
      obtain ⟨v20, e21, hf⟩ := zo_b_s hf
      refine zr_gR rfl rfl (by decide) rfl e21 ?_
      refine zq_wg 2 (pc' := 37) (lv' := [some (.ref y11), some (.int y12), some (.int y13), none, none]) (st' := [.int y13, .int y13, .ref v20]) (h' := h15) rfl ?_
      obtain ⟨g47_22, hg47_22, hf⟩ := zo_lx hf
      have kg47_22 : ∀ (x22 : Int32), g47_22 x22 = some (ro_, ho_) → zq_wp sc (d + 1) 257 47 [some (.ref y11), some (.int y12), some (.int y13), none, none] [.int x22, .int y13, .ref v20] h15 (some (.int ro_), ho_) := by
        intro x22 hf
        rw [hg47_22] at hf
        obtain ⟨h23, e24, hf⟩ := zo_b_s hf
        refine zr_iast rfl e24 ?_
        refine zq_wg 2 (pc' := 23) (lv' := [some (.ref y11), some (.int y12), some (.int (y13 + (1 : Int32))), none, none]) (st' := []) (h' := h23) rfl ?_
        exact ih y11 y12 (y13 + (1 : Int32)) h23 _ _ _ hk54 hf
      refine zr_if (y13 = 0) 40 44 (st' := [.int y13, .ref v20]) rfl rfl (fun b25 => ?_) (fun b25 => ?_)
      · have hf := zo_lt hf b25
        refine zq_wg 2 (pc' := 47) (lv' := [some (.ref y11), some (.int y12), some (.int y13), none, none]) (st' := [.int (0 : Int32), .int y13, .ref v20]) (h' := h15) rfl ?_
        exact kg47_22 _ hf
      · have hf := zo_lf hf b25
        refine zq_wg 1 (pc' := 47) (lv' := [some (.ref y11), some (.int y12), some (.int y13), none, none]) (st' := [.int (1000 : Int32), .int y13, .ref v20]) (h' := h15) rfl ?_
        exact kg47_22 _ hf
set_option maxRecDepth 4000 in
theorem zm_putOff_l64_ok (sc : zX) (d : Nat) (hd : 6 ≤ d) : ∀ (n : Nat) (y34 : Nat) (y35 : Int32) (y36 : Int32) (y37 : Int32) (h38 : zH) (k145 : Nat → Int32 → Int32 → zH → Option (Int32 × zH)) (ro_ : Int32) (ho_ : zH), (∀ (z0 : Nat) (z1 : Int32) (z2 : Int32) (hz : zH), k145 z0 z1 z2 hz = some (ro_, ho_) → zq_wp sc (d + 1) 257 145 [some (.ref z0), some (.int z1), some (.int z2), none, none] [] hz (some (.int ro_), ho_)) → zm_putOff_l64 sc n y34 y35 y36 y37 h38 k145 = some (ro_, ho_) → zq_wp sc (d + 1) 257 64 [some (.ref y34), some (.int y35), some (.int y36), some (.int y37), none] [] h38 (some (.int ro_), ho_) := by
  intro n
  induction n with
  | zero => intro y34 y35 y36 y37 h38 k145 ro_ ho_ hk145 hf; cases hf
  | succ n ih =>
    intro y34 y35 y36 y37 h38 k145 ro_ ho_ hk145 hf
    refine zq_wg 2 (pc' := 66) (lv' := [some (.ref y34), some (.int y35), some (.int y36), some (.int y37), none]) (st' := [.ref y34, .int y37]) (h' := h38) rfl ?_
    obtain ⟨e42, v40, h39, e41, hf⟩ := zo_v_s hf
    refine zr_cv zq_m215 [] [.int y37] rfl rfl rfl rfl rfl (Nat.le_of_ble_eq_true rfl) (Nat.le_of_ble_eq_true rfl) e42 (zm_cells_ok sc d (by omega) e41) ?_
    refine zq_wg 0 (pc' := 69) (lv' := [some (.ref y34), some (.int y35), some (.int y36), some (.int y37), none]) (st' := [.int v40, .int y37]) (h' := h39) rfl ?_
    refine zr_if (v40 < y37) 145 72 (st' := []) rfl rfl (fun b43 => ?_) (fun b43 => ?_)
    · have hf := zo_t hf b43
      refine zq_fg [some (.ref y34), some (.int y35), some (.int y36), none, none] (zq_lvle_s (zq_lvle_s (zq_lvle_s (zq_lvle_n (zq_lvle_s zq_lvle_nil))))) ?_
      exact hk145 y34 y35 y36 h39 hf
    · have hf := zo_f hf b43
      refine zq_wg 1 (pc' := 73) (lv' := [some (.ref y34), some (.int y35), some (.int y36), some (.int y37), none]) (st' := [.int y37]) (h' := h39) rfl ?_
      obtain ⟨j110_49, hjj110_49, hf⟩ := zo_lj hf
      have kj110_49 : ∀ (x44 : Nat) (x45 : Int32) (x46 : Int32) (x47 : Int32) (x48 : Int32) (h49 : zH), j110_49 x44 x45 x46 x47 x48 h49 = some (ro_, ho_) → zq_wp sc (d + 1) 257 110 [some (.ref x44), some (.int x45), some (.int x46), some (.int x47), none] [.int x48] h49 (some (.int ro_), ho_) := by
        intro x44 x45 x46 x47 x48 h49 hf
        rw [hjj110_49] at hf
        refine zq_wg 2 (pc' := 113) (lv' := [some (.ref x44), some (.int x45), some (.int x46), some (.int x47), some (.int x48)]) (st' := [.ref x44]) (h' := h49) rfl ?_
        obtain ⟨v50, e51, hf⟩ := zo_b_s hf
        refine zr_gR rfl rfl (by decide) rfl e51 ?_
        refine zq_wg 7 (pc' := 127) (lv' := [some (.ref x44), some (.int x45), some (.int x46), some (.int x47), some (.int x48)]) (st' := [.int (1000 : Int32), .int x48, .int (((41 : Int32) * x46) + x47), .ref v50]) (h' := h49) rfl ?_
        obtain ⟨g138_52, hg138_52, hf⟩ := zo_lx hf
        have kg138_52 : ∀ (x52 : Int32), g138_52 x52 = some (ro_, ho_) → zq_wp sc (d + 1) 257 138 [some (.ref x44), some (.int x45), some (.int x46), some (.int x47), some (.int x48)] [.int x52, .int (((41 : Int32) * x46) + x47), .ref v50] h49 (some (.int ro_), ho_) := by
          intro x52 hf
          rw [hg138_52] at hf
          obtain ⟨h53, e54, hf⟩ := zo_b_s hf
          refine zr_iast rfl e54 ?_
          refine zq_wg 2 (pc' := 64) (lv' := [some (.ref x44), some (.int x45), some (.int x46), some (.int (x47 + (1 : Int32))), some (.int x48)]) (st' := []) (h' := h53) rfl ?_
          refine zq_fg [some (.ref x44), some (.int x45), some (.int x46), some (.int (x47 + (1 : Int32))), none] (zq_lvle_s (zq_lvle_s (zq_lvle_s (zq_lvle_s (zq_lvle_n zq_lvle_nil))))) ?_
          exact ih x44 x45 x46 (x47 + (1 : Int32)) h53 _ _ _ hk145 hf
        refine zr_if (x48 < (1000 : Int32)) 136 130 (st' := [.int (((41 : Int32) * x46) + x47), .ref v50]) rfl rfl (fun b55 => ?_) (fun b55 => ?_)
        · have hf := zo_lt hf b55
          refine zq_wg 1 (pc' := 138) (lv' := [some (.ref x44), some (.int x45), some (.int x46), some (.int x47), some (.int x48)]) (st' := [.int x48, .int (((41 : Int32) * x46) + x47), .ref v50]) (h' := h49) rfl ?_
          exact kg138_52 _ hf
        · have hf := zo_lf hf b55
          refine zq_wg 2 (pc' := 138) (lv' := [some (.ref x44), some (.int x45), some (.int x46), some (.int x47), some (.int x48)]) (st' := [.int (1000 : Int32), .int (((41 : Int32) * x46) + x47), .ref v50]) (h' := h49) rfl ?_
          exact kg138_52 _ hf
      refine zr_if (y37 = 0) 76 80 (st' := []) rfl rfl (fun b56 => ?_) (fun b56 => ?_)
      · have hf := zo_t hf b56
        refine zq_wg 2 (pc' := 110) (lv' := [some (.ref y34), some (.int y35), some (.int y36), some (.int y37), none]) (st' := [.int (0 : Int32)]) (h' := h39) rfl ?_
        exact kj110_49 y34 y35 y36 y37 (0 : Int32) h39 hf
      · have hf := zo_f hf b56
        refine zq_wg 2 (pc' := 82) (lv' := [some (.ref y34), some (.int y35), some (.int y36), some (.int y37), none]) (st' := [.ref y34, .int y37]) (h' := h39) rfl ?_
        obtain ⟨e60, v58, h57, e59, hf⟩ := zo_v_s hf
        refine zr_cv zq_m215 [] [.int y37] rfl rfl rfl rfl rfl (Nat.le_of_ble_eq_true rfl) (Nat.le_of_ble_eq_true rfl) e60 (zm_cells_ok sc d (by omega) e59) ?_
        refine zq_wg 0 (pc' := 85) (lv' := [some (.ref y34), some (.int y35), some (.int y36), some (.int y37), none]) (st' := [.int v58, .int y37]) (h' := h57) rfl ?_
        refine zr_if (y37 = v58) 88 94 (st' := []) rfl rfl (fun b61 => ?_) (fun b61 => ?_)
        · have hf := zo_t hf b61
          refine zq_wg 2 (pc' := 110) (lv' := [some (.ref y34), some (.int y35), some (.int y36), some (.int y37), none]) (st' := [.int (1000 : Int32)]) (h' := h57) rfl ?_
          exact kj110_49 y34 y35 y36 y37 (1000 : Int32) h57 hf
        · have hf := zo_f hf b61
          refine zq_wg 10 (pc' := 104) (lv' := [some (.ref y34), some (.int y35), some (.int y36), some (.int y37), none]) (st' := [.int y37, .int (y36 - (1 : Int32)), .ref y34, .int y37, .int (y36 - (1 : Int32)), .ref y34]) (h' := h57) rfl ?_
          obtain ⟨e65, v63, h62, e64, hf⟩ := zo_v_s hf
          refine zr_cv zq_m258 [.int (y36 - (1 : Int32)), .int y37] [.int y37, .int (y36 - (1 : Int32)), .ref y34] rfl rfl rfl rfl rfl (Nat.le_of_ble_eq_true rfl) (Nat.le_of_ble_eq_true rfl) e65 (zm_bestOff_ok sc d (by omega) e64) ?_
          refine zq_wg 0 (pc' := 107) (lv' := [some (.ref y34), some (.int y35), some (.int y36), some (.int y37), none]) (st' := [.int v63, .int y37, .int (y36 - (1 : Int32)), .ref y34]) (h' := h62) rfl ?_
          obtain ⟨e69, v67, h66, e68, hf⟩ := zo_v_s hf
          refine zr_cv zq_m259 [.int (y36 - (1 : Int32)), .int y37, .int v63] [] rfl rfl rfl rfl rfl (Nat.le_of_ble_eq_true rfl) (Nat.le_of_ble_eq_true rfl) e69 (zm_offBy_ok sc d (by omega) e68) ?_
          refine zq_wg 0 (pc' := 110) (lv' := [some (.ref y34), some (.int y35), some (.int y36), some (.int y37), none]) (st' := [.int v67]) (h' := h66) rfl ?_
          exact kj110_49 y34 y35 y36 y37 v67 h66 hf
set_option maxRecDepth 4000 in
theorem zm_putOff_l56_ok (sc : zX) (d : Nat) (hd : 6 ≤ d) : ∀ (n : Nat) (y29 : Nat) (y30 : Int32) (y31 : Int32) (h32 : zH) (k151 : Nat → Int32 → zH → Option (Int32 × zH)) (ro_ : Int32) (ho_ : zH), (∀ (z0 : Nat) (z1 : Int32) (hz : zH), k151 z0 z1 hz = some (ro_, ho_) → zq_wp sc (d + 1) 257 151 [some (.ref z0), some (.int z1), none, none, none] [] hz (some (.int ro_), ho_)) → zm_putOff_l56 sc n y29 y30 y31 h32 k151 = some (ro_, ho_) → zq_wp sc (d + 1) 257 56 [some (.ref y29), some (.int y30), some (.int y31), none, none] [] h32 (some (.int ro_), ho_) := by
  intro n
  induction n with
  | zero => intro y29 y30 y31 h32 k151 ro_ ho_ hk151 hf; cases hf
  | succ n ih =>
    intro y29 y30 y31 h32 k151 ro_ ho_ hk151 hf
    refine zq_wg 2 (pc' := 59) (lv' := [some (.ref y29), some (.int y30), some (.int y31), none, none]) (st' := [.int (60 : Int32), .int y31]) (h' := h32) rfl ?_
    refine zr_if ((60 : Int32) < y31) 151 62 (st' := []) rfl rfl (fun b33 => ?_) (fun b33 => ?_)
    · have hf := zo_t hf b33
      refine zq_fg [some (.ref y29), some (.int y30), none, none, none] (zq_lvle_s (zq_lvle_s (zq_lvle_n (zq_lvle_s (zq_lvle_s zq_lvle_nil))))) ?_
      exact hk151 y29 y30 h32 hf
    · have hf := zo_f hf b33
      refine zq_wg 2 (pc' := 64) (lv' := [some (.ref y29), some (.int y30), some (.int y31), some (.int (0 : Int32)), none]) (st' := []) (h' := h32) rfl ?_
      refine zm_putOff_l64_ok sc d hd zo_F y29 y30 y31 (0 : Int32) h32 _ _ _ ?_ hf
      · intro x70 x71 x72 h73 hf
        refine zq_wg 2 (pc' := 56) (lv' := [some (.ref x70), some (.int x71), some (.int (x72 + (1 : Int32))), none, none]) (st' := []) (h' := h73) rfl ?_
        exact ih x70 x71 (x72 + (1 : Int32)) h73 _ _ _ hk151 hf
set_option maxRecDepth 4000 in
theorem zm_putOff_ok (sc : zX) (d : Nat) (hd : 7 ≤ d) {a0 : Nat} {a1 : Int32} {h : zH} {ro_ : Int32} {ho_ : zH} (hf : zm_putOff sc a0 a1 h = some (ro_, ho_)) : zq_wm sc d 257 [.ref a0, .int a1] h (some (.int ro_), ho_) := by
  unfold zm_putOff at hf
  obtain ⟨d, rfl⟩ : ∃ d', d = d' + 1 := ⟨d - 1, by omega⟩
  have hd : 6 ≤ d := by omega
  show zq_wp sc (d + 1) 257 0 [some (.ref a0), some (.int a1), none, none, none] [] h _
  refine zq_wg 2 (pc' := 2) (lv' := [some (.ref a0), some (.int a1), none, none, none]) (st' := [.int (0 : Int32), .ref a0]) (h' := h) rfl ?_
  obtain ⟨h1, e2, hf⟩ := zo_b_s hf
  refine zr_pI rfl rfl (by decide) rfl rfl e2 ?_
  refine zq_wg 3 (pc' := 8) (lv' := [some (.ref a0), some (.int a1), none, none, none]) (st' := [.int (1 : Int32), .int (0 : Int32), .int a1]) (h' := h1) rfl ?_
  obtain ⟨v4, h3, e5, hf⟩ := zo_c_s hf
  refine zr_cs zq_m173 [.int a1, .int (0 : Int32), .int (1 : Int32)] [] rfl rfl (by decide) rfl rfl rfl (Nat.le_of_ble_eq_true rfl) (Nat.le_of_ble_eq_true rfl) (zm_within_ok sc d (by omega) e5) ?_
  refine zq_wg 0 (pc' := 11) (lv' := [some (.ref a0), some (.int a1), none, none, none]) (st' := [.int v4]) (h' := h3) rfl ?_
  refine zr_if (v4 = 0) 14 17 (st' := []) rfl rfl (fun b6 => ?_) (fun b6 => ?_)
  · have hf := zo_t hf b6
    refine zq_wg 1 (pc' := 16) (lv' := [some (.ref a0), some (.int a1), none, none, none]) (st' := [.int (-2 : Int32)]) (h' := h3) rfl ?_
    exact zr_ri rfl rfl rfl hf
  · have hf := zo_f hf b6
    refine zq_wg 1 (pc' := 18) (lv' := [some (.ref a0), some (.int a1), none, none, none]) (st' := [.ref a0]) (h' := h3) rfl ?_
    obtain ⟨e10, w8, h7, e9, hf⟩ := zo_v_s hf
    refine zr_cv zq_m255 [] [] rfl rfl rfl rfl rfl (Nat.le_of_ble_eq_true rfl) (Nat.le_of_ble_eq_true rfl) e10 (zm_laysGoes_ok sc d (by omega) e9) ?_
    refine zq_wg 0 (pc' := 21) (lv' := [some (.ref a0), some (.int a1), none, none, none]) (st' := []) (h' := h7) rfl ?_
    refine zq_wg 2 (pc' := 23) (lv' := [some (.ref a0), some (.int a1), some (.int (0 : Int32)), none, none]) (st' := []) (h' := h7) rfl ?_
    refine zm_putOff_l23_ok sc d hd zo_F a0 a1 (0 : Int32) h7 _ _ _ ?_ hf
    · intro x26 x27 h28 hf
      refine zq_wg 2 (pc' := 56) (lv' := [some (.ref x26), some (.int x27), some (.int (1 : Int32)), none, none]) (st' := []) (h' := h28) rfl ?_
      refine zm_putOff_l56_ok sc d hd zo_F x26 x27 (1 : Int32) h28 _ _ _ ?_ hf
      · intro x74 x75 h76 hf
        refine zq_wg 1 (pc' := 152) (lv' := [some (.ref x74), some (.int x75), none, none, none]) (st' := [.ref x74]) (h' := h76) rfl ?_
        obtain ⟨v77, e78, hf⟩ := zo_b_s hf
        refine zr_gR rfl rfl (by decide) rfl e78 ?_
        refine zq_wg 2 (pc' := 159) (lv' := [some (.ref x74), some (.int x75), none, none, none]) (st' := [.ref x74, .int (2460 : Int32), .ref v77]) (h' := h76) rfl ?_
        obtain ⟨v79, e80, hf⟩ := zo_b_s hf
        refine zr_gR rfl rfl (by decide) rfl e80 ?_
        refine zq_wg 1 (pc' := 163) (lv' := [some (.ref x74), some (.int x75), none, none, none]) (st' := [.int (1 : Int32), .ref v79, .int (2460 : Int32), .ref v77]) (h' := h76) rfl ?_
        obtain ⟨v81, e82, hf⟩ := zo_b_s hf
        refine zr_iald rfl e82 ?_
        refine zq_wg 1 (pc' := 165) (lv' := [some (.ref x74), some (.int x75), none, none, none]) (st' := [.int ((2460 : Int32) + v81), .ref v77]) (h' := h76) rfl ?_
        obtain ⟨v83, e84, hf⟩ := zo_b_s hf
        refine zr_iald rfl e84 ?_
        refine zq_wg 2 (pc' := 168) (lv' := [some (.ref x74), some (.int x75), some (.int v83), none, none]) (st' := [.int x75]) (h' := h76) rfl ?_
        refine zr_if (x75 = 0) 171 184 (st' := []) rfl rfl (fun b85 => ?_) (fun b85 => ?_)
        · have hf := zo_t hf b85
          refine zq_wg 2 (pc' := 175) (lv' := [some (.ref x74), some (.int x75), some (.int v83), none, none]) (st' := [.int (1000 : Int32), .int v83]) (h' := h76) rfl ?_
          refine zr_if (v83 < (1000 : Int32)) 182 178 (st' := []) rfl rfl (fun b86 => ?_) (fun b86 => ?_)
          · have hf := zo_t hf b86
            refine zq_wg 1 (pc' := 183) (lv' := [some (.ref x74), some (.int x75), some (.int v83), none, none]) (st' := [.int v83]) (h' := h76) rfl ?_
            exact zr_ri rfl rfl rfl hf
          · have hf := zo_f hf b86
            refine zq_wg 2 (pc' := 183) (lv' := [some (.ref x74), some (.int x75), some (.int v83), none, none]) (st' := [.int (-1 : Int32)]) (h' := h76) rfl ?_
            exact zr_ri rfl rfl rfl hf
        · have hf := zo_f hf b85
          refine zq_wg 2 (pc' := 186) (lv' := [some (.ref x74), some (.int x75), some (.int v83), none, none]) (st' := [.ref x74, .ref x74]) (h' := h76) rfl ?_
          obtain ⟨v87, e88, hf⟩ := zo_b_s hf
          refine zr_gR rfl rfl (by decide) rfl e88 ?_
          refine zq_wg 1 (pc' := 190) (lv' := [some (.ref x74), some (.int x75), some (.int v83), none, none]) (st' := [.int (1 : Int32), .ref v87, .ref x74]) (h' := h76) rfl ?_
          obtain ⟨v89, e90, hf⟩ := zo_b_s hf
          refine zr_iald rfl e90 ?_
          obtain ⟨e94, v92, h91, e93, hf⟩ := zo_v_s hf
          refine zr_cv zq_m214 [.int v89] [] rfl rfl rfl rfl rfl (Nat.le_of_ble_eq_true rfl) (Nat.le_of_ble_eq_true rfl) e94 (zm_isEnd_ok sc d (by omega) e93) ?_
          refine zq_wg 0 (pc' := 194) (lv' := [some (.ref x74), some (.int x75), some (.int v83), none, none]) (st' := [.int v92]) (h' := h91) rfl ?_
          refine zr_if (v92 = 0) 201 197 (st' := []) rfl rfl (fun b95 => ?_) (fun b95 => ?_)
          · have hf := zo_t hf b95
            refine zq_wg 3 (pc' := 205) (lv' := [some (.ref x74), some (.int x75), some (.int v83), none, none]) (st' := [.ref x74, .int (59 : Int32), .ref x74]) (h' := h91) rfl ?_
            obtain ⟨v96, e97, hf⟩ := zo_b_s hf
            refine zr_gR rfl rfl (by decide) rfl e97 ?_
            refine zq_wg 1 (pc' := 209) (lv' := [some (.ref x74), some (.int x75), some (.int v83), none, none]) (st' := [.int (1 : Int32), .ref v96, .int (59 : Int32), .ref x74]) (h' := h91) rfl ?_
            obtain ⟨v98, e99, hf⟩ := zo_b_s hf
            refine zr_iald rfl e99 ?_
            obtain ⟨e103, v101, h100, e102, hf⟩ := zo_v_s hf
            refine zr_cv zq_m258 [.int (59 : Int32), .int v98] [] rfl rfl rfl rfl rfl (Nat.le_of_ble_eq_true rfl) (Nat.le_of_ble_eq_true rfl) e103 (zm_bestOff_ok sc d (by omega) e102) ?_
            refine zq_wg 0 (pc' := 213) (lv' := [some (.ref x74), some (.int x75), some (.int v83), none, none]) (st' := [.int v101]) (h' := h100) rfl ?_
            exact zr_ri rfl rfl rfl hf
          · have hf := zo_f hf b95
            refine zq_wg 2 (pc' := 213) (lv' := [some (.ref x74), some (.int x75), some (.int v83), none, none]) (st' := [.int (-1 : Int32)]) (h' := h91) rfl ?_
            exact zr_ri rfl rfl rfl hf
