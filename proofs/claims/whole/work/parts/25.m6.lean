/-! methods as functions, and their walks; printed by wip/whole/decomp.py -/
set_option maxRecDepth 4000 in
def zm_posts (sc : zX) (a0 : Nat) (h : zH) : Option (Int32 × zH) := zo_b (zo_gR h 10 a0 10) (fun v1 => zo_b (zq_rdI sc h v1 (0 : Int32)) (fun v3 => some (v3, h)))
set_option maxRecDepth 4000 in
theorem zm_posts_ok (sc : zX) (d : Nat) (hd : 0 ≤ d) {a0 : Nat} {h : zH} {ro_ : Int32} {ho_ : zH} (hf : zm_posts sc a0 h = some (ro_, ho_)) : zq_wm sc d 151 [.ref a0] h (some (.int ro_), ho_) := by
  unfold zm_posts at hf
  show zq_wp sc d 151 0 [some (.ref a0)] [] h _
  refine zq_wg 1 (pc' := 1) (lv' := [some (.ref a0)]) (st' := [.ref a0]) (h' := h) rfl ?_
  obtain ⟨v1, e2, hf⟩ := zo_b_s hf
  refine zr_gR rfl rfl (by decide) rfl e2 ?_
  refine zq_wg 1 (pc' := 5) (lv' := [some (.ref a0)]) (st' := [.int (0 : Int32), .ref v1]) (h' := h) rfl ?_
  obtain ⟨v3, e4, hf⟩ := zo_b_s hf
  refine zr_iald rfl e4 ?_
  exact zr_ri rfl rfl rfl hf
set_option maxRecDepth 4000 in
def zm_men (sc : zX) (a0 : Nat) (h : zH) : Option (Int32 × zH) := zo_b (zo_gR h 10 a0 10) (fun v1 => zo_b (zq_rdI sc h v1 (1 : Int32)) (fun v3 => some (v3, h)))
set_option maxRecDepth 4000 in
theorem zm_men_ok (sc : zX) (d : Nat) (hd : 0 ≤ d) {a0 : Nat} {h : zH} {ro_ : Int32} {ho_ : zH} (hf : zm_men sc a0 h = some (ro_, ho_)) : zq_wm sc d 152 [.ref a0] h (some (.int ro_), ho_) := by
  unfold zm_men at hf
  show zq_wp sc d 152 0 [some (.ref a0)] [] h _
  refine zq_wg 1 (pc' := 1) (lv' := [some (.ref a0)]) (st' := [.ref a0]) (h' := h) rfl ?_
  obtain ⟨v1, e2, hf⟩ := zo_b_s hf
  refine zr_gR rfl rfl (by decide) rfl e2 ?_
  refine zq_wg 1 (pc' := 5) (lv' := [some (.ref a0)]) (st' := [.int (1 : Int32), .ref v1]) (h' := h) rfl ?_
  obtain ⟨v3, e4, hf⟩ := zo_b_s hf
  refine zr_iald rfl e4 ?_
  exact zr_ri rfl rfl rfl hf
set_option maxRecDepth 4000 in
def zm_manOf (sc : zX) (a0 : Nat) (a1 : Int32) (a2 : Int32) (h : zH) : Option (Int32 × zH) := zo_b (zo_gR h 10 a0 10) (fun v1 => zo_b (zq_rdI sc h v1 (((28 : Int32) + ((3 : Int32) * a1)) + a2)) (fun v3 => some (v3, h)))
set_option maxRecDepth 4000 in
theorem zm_manOf_ok (sc : zX) (d : Nat) (hd : 0 ≤ d) {a0 : Nat} {a1 : Int32} {a2 : Int32} {h : zH} {ro_ : Int32} {ho_ : zH} (hf : zm_manOf sc a0 a1 a2 h = some (ro_, ho_)) : zq_wm sc d 153 [.ref a0, .int a1, .int a2] h (some (.int ro_), ho_) := by
  unfold zm_manOf at hf
  show zq_wp sc d 153 0 [some (.ref a0), some (.int a1), some (.int a2)] [] h _
  refine zq_wg 1 (pc' := 1) (lv' := [some (.ref a0), some (.int a1), some (.int a2)]) (st' := [.ref a0]) (h' := h) rfl ?_
  obtain ⟨v1, e2, hf⟩ := zo_b_s hf
  refine zr_gR rfl rfl (by decide) rfl e2 ?_
  refine zq_wg 7 (pc' := 12) (lv' := [some (.ref a0), some (.int a1), some (.int a2)]) (st' := [.int (((28 : Int32) + ((3 : Int32) * a1)) + a2), .ref v1]) (h' := h) rfl ?_
  obtain ⟨v3, e4, hf⟩ := zo_b_s hf
  refine zr_iald rfl e4 ?_
  exact zr_ri rfl rfl rfl hf
set_option maxRecDepth 4000 in
def zm_starts_l43 (sc : zX) : Nat → Nat → Int32 → Int32 → zH → Option (Unit × zH)
  | 0, _, _, _, _ => none
  | n + 1, y21, y22, y23, h24 => if (6 : Int32) ≤ y23 then (some ((), h24)) else (zo_b (zo_gR h24 10 y21 25) (fun v26 => zo_v h24 y21 10 (zm_posts sc y21 h24) (fun v29 h28 => zo_l (fun (x32 : Nat) (x33 : Int32) (x34 : Int32) (x35 : Nat) (x36 : Int32) (x37 : Int32) (h38 : zH) => zo_b (zq_wrX 1 h38 x35 x36 x37) (fun h39 => zo_b (zo_gR h39 10 x32 25) (fun v41 => zo_v h39 x32 10 (zm_men sc x32 h39) (fun v44 h43 => zo_l (fun (x47 : Nat) (x48 : Int32) (x49 : Int32) (x50 : Nat) (x51 : Int32) (x52 : Int32) (h53 : zH) => zo_b (zq_wrX 1 h53 x50 x51 x52) (fun h54 => zm_starts_l43 sc n x47 x48 (x49 + (1 : Int32)) h54 )) (fun j108_53 => if v44 ≤ x34 then (j108_53 x32 x33 x34 v41 ((x33 + (10 : Int32)) + x34) (0 : Int32) h43) else (zo_v h43 x32 10 (zm_manOf sc x32 x34 (2 : Int32) h43) (fun v58 h57 => j108_53 x32 x33 x34 v41 ((x33 + (10 : Int32)) + x34) v58 h57))))))) (fun j79_38 => zo_l (fun (x61 : Nat) (x62 : Int32) (x63 : Int32) (x64 : Nat) (x65 : Int32) (h66 : zH) => j79_38 x61 x62 x63 x64 x65 (-1 : Int32) h66) (fun j78_66 => if v29 ≤ y23 then (j78_66 y21 y22 y23 v26 ((y22 + (4 : Int32)) + y23) h28) else (zo_v h28 y21 10 (zm_men sc y21 h28) (fun v69 h68 => if v69 ≤ y23 then (j78_66 y21 y22 y23 v26 ((y22 + (4 : Int32)) + y23) h68) else (j79_38 y21 y22 y23 v26 ((y22 + (4 : Int32)) + y23) y23 h68))))))))
set_option maxRecDepth 4000 in
def zm_starts (sc : zX) (a0 : Nat) (a1 : Int32) (h : zH) : Option (Unit × zH) := zo_b (zo_gR h 10 a0 25) (fun v1 => zo_b (zq_wrX 1 h v1 (a1 + (0 : Int32)) (0 : Int32)) (fun h3 => zo_b (zo_gR h3 10 a0 25) (fun v5 => zo_b (zo_gR h3 10 a0 10) (fun v7 => zo_b (zq_rdI sc h3 v7 (3 : Int32)) (fun v9 => zo_b (zq_wrX 1 h3 v5 (a1 + (1 : Int32)) v9) (fun h11 => zo_b (zo_gR h11 10 a0 25) (fun v13 => zo_b (zq_wrX 1 h11 v13 (a1 + (2 : Int32)) (0 : Int32)) (fun h15 => zo_b (zo_gR h15 10 a0 25) (fun v17 => zo_b (zq_wrX 1 h15 v17 (a1 + (3 : Int32)) (-1 : Int32)) (fun h19 => zm_starts_l43 sc zo_F a0 a1 (0 : Int32) h19 ))))))))))
set_option maxRecDepth 4000 in
theorem zm_starts_l43_ok (sc : zX) (d : Nat) (hd : 0 ≤ d) : ∀ (n : Nat) (y21 : Nat) (y22 : Int32) (y23 : Int32) (h24 : zH) (ro_ : Unit) (ho_ : zH),  zm_starts_l43 sc n y21 y22 y23 h24  = some (ro_, ho_) → zq_wp sc (d + 1) 150 43 [some (.ref y21), some (.int y22), some (.int y23)] [] h24 (none, ho_) := by
  intro n
  induction n with
  | zero => intro y21 y22 y23 h24 ro_ ho_ hf; cases hf
  | succ n ih =>
    intro y21 y22 y23 h24 ro_ ho_ hf
    refine zq_wg 2 (pc' := 46) (lv' := [some (.ref y21), some (.int y22), some (.int y23)]) (st' := [.int (6 : Int32), .int y23]) (h' := h24) rfl ?_
    refine zr_if ((6 : Int32) ≤ y23) 115 49 (st' := []) rfl rfl (fun b25 => ?_) (fun b25 => ?_)
    · have hf := zo_t hf b25
      exact zr_rv rfl rfl hf
    · have hf := zo_f hf b25
      refine zq_wg 1 (pc' := 50) (lv' := [some (.ref y21), some (.int y22), some (.int y23)]) (st' := [.ref y21]) (h' := h24) rfl ?_
      obtain ⟨v26, e27, hf⟩ := zo_b_s hf
      refine zr_gR rfl rfl (by decide) rfl e27 ?_
      refine zq_wg 7 (pc' := 60) (lv' := [some (.ref y21), some (.int y22), some (.int y23)]) (st' := [.ref y21, .int y23, .int ((y22 + (4 : Int32)) + y23), .ref v26]) (h' := h24) rfl ?_
      obtain ⟨e31, v29, h28, e30, hf⟩ := zo_v_s hf
      refine zr_cv zq_m151 [] [.int y23, .int ((y22 + (4 : Int32)) + y23), .ref v26] rfl rfl rfl rfl rfl (Nat.le_of_ble_eq_true rfl) (Nat.le_of_ble_eq_true rfl) e31 (zm_posts_ok sc d (by omega) e30) ?_
      refine zq_wg 0 (pc' := 63) (lv' := [some (.ref y21), some (.int y22), some (.int y23)]) (st' := [.int v29, .int y23, .int ((y22 + (4 : Int32)) + y23), .ref v26]) (h' := h28) rfl ?_
      obtain ⟨j79_38, hjj79_38, hf⟩ := zo_lj hf
      have kj79_38 : ∀ (x32 : Nat) (x33 : Int32) (x34 : Int32) (x35 : Nat) (x36 : Int32) (x37 : Int32) (h38 : zH), j79_38 x32 x33 x34 x35 x36 x37 h38 = some (ro_, ho_) → zq_wp sc (d + 1) 150 79 [some (.ref x32), some (.int x33), some (.int x34)] [.int x37, .int x36, .ref x35] h38 (none, ho_) := by
        intro x32 x33 x34 x35 x36 x37 h38 hf
        rw [hjj79_38] at hf
        obtain ⟨h39, e40, hf⟩ := zo_b_s hf
        refine zr_iast rfl e40 ?_
        refine zq_wg 1 (pc' := 81) (lv' := [some (.ref x32), some (.int x33), some (.int x34)]) (st' := [.ref x32]) (h' := h39) rfl ?_
        obtain ⟨v41, e42, hf⟩ := zo_b_s hf
        refine zr_gR rfl rfl (by decide) rfl e42 ?_
        refine zq_wg 7 (pc' := 92) (lv' := [some (.ref x32), some (.int x33), some (.int x34)]) (st' := [.ref x32, .int x34, .int ((x33 + (10 : Int32)) + x34), .ref v41]) (h' := h39) rfl ?_
        obtain ⟨e46, v44, h43, e45, hf⟩ := zo_v_s hf
        refine zr_cv zq_m152 [] [.int x34, .int ((x33 + (10 : Int32)) + x34), .ref v41] rfl rfl rfl rfl rfl (Nat.le_of_ble_eq_true rfl) (Nat.le_of_ble_eq_true rfl) e46 (zm_men_ok sc d (by omega) e45) ?_
        refine zq_wg 0 (pc' := 95) (lv' := [some (.ref x32), some (.int x33), some (.int x34)]) (st' := [.int v44, .int x34, .int ((x33 + (10 : Int32)) + x34), .ref v41]) (h' := h43) rfl ?_
        obtain ⟨j108_53, hjj108_53, hf⟩ := zo_lj hf
        have kj108_53 : ∀ (x47 : Nat) (x48 : Int32) (x49 : Int32) (x50 : Nat) (x51 : Int32) (x52 : Int32) (h53 : zH), j108_53 x47 x48 x49 x50 x51 x52 h53 = some (ro_, ho_) → zq_wp sc (d + 1) 150 108 [some (.ref x47), some (.int x48), some (.int x49)] [.int x52, .int x51, .ref x50] h53 (none, ho_) := by
          intro x47 x48 x49 x50 x51 x52 h53 hf
          rw [hjj108_53] at hf
          obtain ⟨h54, e55, hf⟩ := zo_b_s hf
          refine zr_iast rfl e55 ?_
          refine zq_wg 2 (pc' := 43) (lv' := [some (.ref x47), some (.int x48), some (.int (x49 + (1 : Int32)))]) (st' := []) (h' := h54) rfl ?_
          exact ih x47 x48 (x49 + (1 : Int32)) h54 _ _ hf
        refine zr_if (v44 ≤ x34) 107 98 (st' := [.int ((x33 + (10 : Int32)) + x34), .ref v41]) rfl rfl (fun b56 => ?_) (fun b56 => ?_)
        · have hf := zo_t hf b56
          refine zq_wg 1 (pc' := 108) (lv' := [some (.ref x32), some (.int x33), some (.int x34)]) (st' := [.int (0 : Int32), .int ((x33 + (10 : Int32)) + x34), .ref v41]) (h' := h43) rfl ?_
          exact kj108_53 x32 x33 x34 v41 ((x33 + (10 : Int32)) + x34) (0 : Int32) h43 hf
        · have hf := zo_f hf b56
          refine zq_wg 3 (pc' := 101) (lv' := [some (.ref x32), some (.int x33), some (.int x34)]) (st' := [.int (2 : Int32), .int x34, .ref x32, .int ((x33 + (10 : Int32)) + x34), .ref v41]) (h' := h43) rfl ?_
          obtain ⟨e60, v58, h57, e59, hf⟩ := zo_v_s hf
          refine zr_cv zq_m153 [.int x34, .int (2 : Int32)] [.int ((x33 + (10 : Int32)) + x34), .ref v41] rfl rfl rfl rfl rfl (Nat.le_of_ble_eq_true rfl) (Nat.le_of_ble_eq_true rfl) e60 (zm_manOf_ok sc d (by omega) e59) ?_
          refine zq_wg 0 (pc' := 104) (lv' := [some (.ref x32), some (.int x33), some (.int x34)]) (st' := [.int v58, .int ((x33 + (10 : Int32)) + x34), .ref v41]) (h' := h57) rfl ?_
          refine zq_wg 1 (pc' := 108) (lv' := [some (.ref x32), some (.int x33), some (.int x34)]) (st' := [.int v58, .int ((x33 + (10 : Int32)) + x34), .ref v41]) (h' := h57) rfl ?_
          exact kj108_53 x32 x33 x34 v41 ((x33 + (10 : Int32)) + x34) v58 h57 hf
      obtain ⟨j78_66, hjj78_66, hf⟩ := zo_lj hf
      have kj78_66 : ∀ (x61 : Nat) (x62 : Int32) (x63 : Int32) (x64 : Nat) (x65 : Int32) (h66 : zH), j78_66 x61 x62 x63 x64 x65 h66 = some (ro_, ho_) → zq_wp sc (d + 1) 150 78 [some (.ref x61), some (.int x62), some (.int x63)] [.int x65, .ref x64] h66 (none, ho_) := by
        intro x61 x62 x63 x64 x65 h66 hf
        rw [hjj78_66] at hf
        refine zq_wg 1 (pc' := 79) (lv' := [some (.ref x61), some (.int x62), some (.int x63)]) (st' := [.int (-1 : Int32), .int x65, .ref x64]) (h' := h66) rfl ?_
        exact kj79_38 x61 x62 x63 x64 x65 (-1 : Int32) h66 hf
      refine zr_if (v29 ≤ y23) 78 66 (st' := [.int ((y22 + (4 : Int32)) + y23), .ref v26]) rfl rfl (fun b67 => ?_) (fun b67 => ?_)
      · have hf := zo_t hf b67
        exact kj78_66 y21 y22 y23 v26 ((y22 + (4 : Int32)) + y23) h28 hf
      · have hf := zo_f hf b67
        refine zq_wg 2 (pc' := 68) (lv' := [some (.ref y21), some (.int y22), some (.int y23)]) (st' := [.ref y21, .int y23, .int ((y22 + (4 : Int32)) + y23), .ref v26]) (h' := h28) rfl ?_
        obtain ⟨e71, v69, h68, e70, hf⟩ := zo_v_s hf
        refine zr_cv zq_m152 [] [.int y23, .int ((y22 + (4 : Int32)) + y23), .ref v26] rfl rfl rfl rfl rfl (Nat.le_of_ble_eq_true rfl) (Nat.le_of_ble_eq_true rfl) e71 (zm_men_ok sc d (by omega) e70) ?_
        refine zq_wg 0 (pc' := 71) (lv' := [some (.ref y21), some (.int y22), some (.int y23)]) (st' := [.int v69, .int y23, .int ((y22 + (4 : Int32)) + y23), .ref v26]) (h' := h68) rfl ?_
        refine zr_if (v69 ≤ y23) 78 74 (st' := [.int ((y22 + (4 : Int32)) + y23), .ref v26]) rfl rfl (fun b72 => ?_) (fun b72 => ?_)
        · have hf := zo_t hf b72
          exact kj78_66 y21 y22 y23 v26 ((y22 + (4 : Int32)) + y23) h68 hf
        · have hf := zo_f hf b72
          refine zq_wg 2 (pc' := 79) (lv' := [some (.ref y21), some (.int y22), some (.int y23)]) (st' := [.int y23, .int ((y22 + (4 : Int32)) + y23), .ref v26]) (h' := h68) rfl ?_
          exact kj79_38 y21 y22 y23 v26 ((y22 + (4 : Int32)) + y23) y23 h68 hf
set_option maxRecDepth 4000 in
theorem zm_starts_ok (sc : zX) (d : Nat) (hd : 1 ≤ d) {a0 : Nat} {a1 : Int32} {h : zH} {ro_ : Unit} {ho_ : zH} (hf : zm_starts sc a0 a1 h = some (ro_, ho_)) : zq_wm sc d 150 [.ref a0, .int a1] h (none, ho_) := by
  unfold zm_starts at hf
  obtain ⟨d, rfl⟩ : ∃ d', d = d' + 1 := ⟨d - 1, by omega⟩
  have hd : 0 ≤ d := by omega
  show zq_wp sc (d + 1) 150 0 [some (.ref a0), some (.int a1), none] [] h _
  refine zq_wg 1 (pc' := 1) (lv' := [some (.ref a0), some (.int a1), none]) (st' := [.ref a0]) (h' := h) rfl ?_
  obtain ⟨v1, e2, hf⟩ := zo_b_s hf
  refine zr_gR rfl rfl (by decide) rfl e2 ?_
  refine zq_wg 4 (pc' := 8) (lv' := [some (.ref a0), some (.int a1), none]) (st' := [.int (0 : Int32), .int (a1 + (0 : Int32)), .ref v1]) (h' := h) rfl ?_
  obtain ⟨h3, e4, hf⟩ := zo_b_s hf
  refine zr_iast rfl e4 ?_
  refine zq_wg 1 (pc' := 10) (lv' := [some (.ref a0), some (.int a1), none]) (st' := [.ref a0]) (h' := h3) rfl ?_
  obtain ⟨v5, e6, hf⟩ := zo_b_s hf
  refine zr_gR rfl rfl (by decide) rfl e6 ?_
  refine zq_wg 4 (pc' := 17) (lv' := [some (.ref a0), some (.int a1), none]) (st' := [.ref a0, .int (a1 + (1 : Int32)), .ref v5]) (h' := h3) rfl ?_
  obtain ⟨v7, e8, hf⟩ := zo_b_s hf
  refine zr_gR rfl rfl (by decide) rfl e8 ?_
  refine zq_wg 1 (pc' := 21) (lv' := [some (.ref a0), some (.int a1), none]) (st' := [.int (3 : Int32), .ref v7, .int (a1 + (1 : Int32)), .ref v5]) (h' := h3) rfl ?_
  obtain ⟨v9, e10, hf⟩ := zo_b_s hf
  refine zr_iald rfl e10 ?_
  obtain ⟨h11, e12, hf⟩ := zo_b_s hf
  refine zr_iast rfl e12 ?_
  refine zq_wg 1 (pc' := 24) (lv' := [some (.ref a0), some (.int a1), none]) (st' := [.ref a0]) (h' := h11) rfl ?_
  obtain ⟨v13, e14, hf⟩ := zo_b_s hf
  refine zr_gR rfl rfl (by decide) rfl e14 ?_
  refine zq_wg 4 (pc' := 31) (lv' := [some (.ref a0), some (.int a1), none]) (st' := [.int (0 : Int32), .int (a1 + (2 : Int32)), .ref v13]) (h' := h11) rfl ?_
  obtain ⟨h15, e16, hf⟩ := zo_b_s hf
  refine zr_iast rfl e16 ?_
  refine zq_wg 1 (pc' := 33) (lv' := [some (.ref a0), some (.int a1), none]) (st' := [.ref a0]) (h' := h15) rfl ?_
  obtain ⟨v17, e18, hf⟩ := zo_b_s hf
  refine zr_gR rfl rfl (by decide) rfl e18 ?_
  refine zq_wg 4 (pc' := 40) (lv' := [some (.ref a0), some (.int a1), none]) (st' := [.int (-1 : Int32), .int (a1 + (3 : Int32)), .ref v17]) (h' := h15) rfl ?_
  obtain ⟨h19, e20, hf⟩ := zo_b_s hf
  refine zr_iast rfl e20 ?_
  refine zq_wg 2 (pc' := 43) (lv' := [some (.ref a0), some (.int a1), some (.int (0 : Int32))]) (st' := []) (h' := h19) rfl ?_
  refine zm_starts_l43_ok sc d hd zo_F a0 a1 (0 : Int32) h19 _ _ hf
set_option maxRecDepth 4000 in
def zm_begins_l35 (sc : zX) : Nat → Nat → Int32 → zH → Option (Unit × zH)
  | 0, _, _, _ => none
  | n + 1, y19, y20, h21 => if (4 : Int32) ≤ y20 then (some ((), h21)) else (zo_b (zo_gR h21 10 y19 27) (fun v23 => zo_b (zq_wrX 4 h21 v23 y20 (vp_nar .boolean (0 : Int32))) (fun h25 => zm_begins_l35 sc n y19 (y20 + (1 : Int32)) h25 )))
set_option maxRecDepth 4000 in
def zm_begins (sc : zX) (a0 : Nat) (h : zH) : Option (Unit × zH) := zo_v h a0 10 (zm_starts sc a0 (0 : Int32) h) (fun w2 h1 => zo_b (zo_gR h1 10 a0 25) (fun v5 => zo_b (zq_wrX 1 h1 v5 (16 : Int32) (0 : Int32)) (fun h7 => zo_b (zo_gR h7 10 a0 25) (fun v9 => zo_b (zq_wrX 1 h7 v9 (22 : Int32) (0 : Int32)) (fun h11 => zo_b (zo_gR h11 10 a0 22) (fun v13 => zo_b (zq_wrX 1 h11 v13 (0 : Int32) (0 : Int32)) (fun h15 => zo_b (zo_pI h15 10 a0 26 (0 : Int32)) (fun h17 => zm_begins_l35 sc zo_F a0 (0 : Int32) h17 ))))))))
set_option maxRecDepth 4000 in
theorem zm_begins_l35_ok (sc : zX) (d : Nat) (hd : 1 ≤ d) : ∀ (n : Nat) (y19 : Nat) (y20 : Int32) (h21 : zH) (ro_ : Unit) (ho_ : zH),  zm_begins_l35 sc n y19 y20 h21  = some (ro_, ho_) → zq_wp sc (d + 1) 149 35 [some (.ref y19), some (.int y20)] [] h21 (none, ho_) := by
  intro n
  induction n with
  | zero => intro y19 y20 h21 ro_ ho_ hf; cases hf
  | succ n ih =>
    intro y19 y20 h21 ro_ ho_ hf
    refine zq_wg 2 (pc' := 37) (lv' := [some (.ref y19), some (.int y20)]) (st' := [.int (4 : Int32), .int y20]) (h' := h21) rfl ?_
    refine zr_if ((4 : Int32) ≤ y20) 53 40 (st' := []) rfl rfl (fun b22 => ?_) (fun b22 => ?_)
    · have hf := zo_t hf b22
      exact zr_rv rfl rfl hf
    · have hf := zo_f hf b22
      refine zq_wg 1 (pc' := 41) (lv' := [some (.ref y19), some (.int y20)]) (st' := [.ref y19]) (h' := h21) rfl ?_
      obtain ⟨v23, e24, hf⟩ := zo_b_s hf
      refine zr_gR rfl rfl (by decide) rfl e24 ?_
      refine zq_wg 2 (pc' := 46) (lv' := [some (.ref y19), some (.int y20)]) (st' := [.int (0 : Int32), .int y20, .ref v23]) (h' := h21) rfl ?_
      obtain ⟨h25, e26, hf⟩ := zo_b_s hf
      refine zr_bast rfl e26 ?_
      refine zq_wg 2 (pc' := 35) (lv' := [some (.ref y19), some (.int (y20 + (1 : Int32)))]) (st' := []) (h' := h25) rfl ?_
      exact ih y19 (y20 + (1 : Int32)) h25 _ _ hf
set_option maxRecDepth 4000 in
theorem zm_begins_ok (sc : zX) (d : Nat) (hd : 2 ≤ d) {a0 : Nat} {h : zH} {ro_ : Unit} {ho_ : zH} (hf : zm_begins sc a0 h = some (ro_, ho_)) : zq_wm sc d 149 [.ref a0] h (none, ho_) := by
  unfold zm_begins at hf
  obtain ⟨d, rfl⟩ : ∃ d', d = d' + 1 := ⟨d - 1, by omega⟩
  have hd : 1 ≤ d := by omega
  show zq_wp sc (d + 1) 149 0 [some (.ref a0), none] [] h _
  refine zq_wg 2 (pc' := 2) (lv' := [some (.ref a0), none]) (st' := [.int (0 : Int32), .ref a0]) (h' := h) rfl ?_
  obtain ⟨e4, w2, h1, e3, hf⟩ := zo_v_s hf
  refine zr_cv zq_m150 [.int (0 : Int32)] [] rfl rfl rfl rfl rfl (Nat.le_of_ble_eq_true rfl) (Nat.le_of_ble_eq_true rfl) e4 (zm_starts_ok sc d (by omega) e3) ?_
  refine zq_wg 0 (pc' := 5) (lv' := [some (.ref a0), none]) (st' := []) (h' := h1) rfl ?_
  refine zq_wg 1 (pc' := 6) (lv' := [some (.ref a0), none]) (st' := [.ref a0]) (h' := h1) rfl ?_
  obtain ⟨v5, e6, hf⟩ := zo_b_s hf
  refine zr_gR rfl rfl (by decide) rfl e6 ?_
  refine zq_wg 2 (pc' := 12) (lv' := [some (.ref a0), none]) (st' := [.int (0 : Int32), .int (16 : Int32), .ref v5]) (h' := h1) rfl ?_
  obtain ⟨h7, e8, hf⟩ := zo_b_s hf
  refine zr_iast rfl e8 ?_
  refine zq_wg 1 (pc' := 14) (lv' := [some (.ref a0), none]) (st' := [.ref a0]) (h' := h7) rfl ?_
  obtain ⟨v9, e10, hf⟩ := zo_b_s hf
  refine zr_gR rfl rfl (by decide) rfl e10 ?_
  refine zq_wg 2 (pc' := 20) (lv' := [some (.ref a0), none]) (st' := [.int (0 : Int32), .int (22 : Int32), .ref v9]) (h' := h7) rfl ?_
  obtain ⟨h11, e12, hf⟩ := zo_b_s hf
  refine zr_iast rfl e12 ?_
  refine zq_wg 1 (pc' := 22) (lv' := [some (.ref a0), none]) (st' := [.ref a0]) (h' := h11) rfl ?_
  obtain ⟨v13, e14, hf⟩ := zo_b_s hf
  refine zr_gR rfl rfl (by decide) rfl e14 ?_
  refine zq_wg 2 (pc' := 27) (lv' := [some (.ref a0), none]) (st' := [.int (0 : Int32), .int (0 : Int32), .ref v13]) (h' := h11) rfl ?_
  obtain ⟨h15, e16, hf⟩ := zo_b_s hf
  refine zr_iast rfl e16 ?_
  refine zq_wg 2 (pc' := 30) (lv' := [some (.ref a0), none]) (st' := [.int (0 : Int32), .ref a0]) (h' := h15) rfl ?_
  obtain ⟨h17, e18, hf⟩ := zo_b_s hf
  refine zr_pI rfl rfl (by decide) rfl rfl e18 ?_
  refine zq_wg 2 (pc' := 35) (lv' := [some (.ref a0), some (.int (0 : Int32))]) (st' := []) (h' := h17) rfl ?_
  refine zm_begins_l35_ok sc d hd zo_F a0 (0 : Int32) h17 _ _ hf
set_option maxRecDepth 4000 in
def zm_isLetter (sc : zX) (a0 : Int32) (h : zH) : Option (Int32 × zH) := if a0 < (97 : Int32) then (some ((0 : Int32), h)) else (if (122 : Int32) < a0 then (some ((0 : Int32), h)) else (some ((1 : Int32), h)))
set_option maxRecDepth 4000 in
theorem zm_isLetter_ok (sc : zX) (d : Nat) (hd : 0 ≤ d) {a0 : Int32} {h : zH} {ro_ : Int32} {ho_ : zH} (hf : zm_isLetter sc a0 h = some (ro_, ho_)) : zq_wm sc d 156 [.int a0] h (some (.int ro_), ho_) := by
  unfold zm_isLetter at hf
  show zq_wp sc d 156 0 [some (.int a0)] [] h _
  refine zq_wg 2 (pc' := 3) (lv' := [some (.int a0)]) (st' := [.int (97 : Int32), .int a0]) (h' := h) rfl ?_
  refine zr_if (a0 < (97 : Int32)) 16 6 (st' := []) rfl rfl (fun b1 => ?_) (fun b1 => ?_)
  · have hf := zo_t hf b1
    refine zq_wg 1 (pc' := 17) (lv' := [some (.int a0)]) (st' := [.int (0 : Int32)]) (h' := h) rfl ?_
    exact zr_ri rfl rfl rfl hf
  · have hf := zo_f hf b1
    refine zq_wg 2 (pc' := 9) (lv' := [some (.int a0)]) (st' := [.int (122 : Int32), .int a0]) (h' := h) rfl ?_
    refine zr_if ((122 : Int32) < a0) 16 12 (st' := []) rfl rfl (fun b2 => ?_) (fun b2 => ?_)
    · have hf := zo_t hf b2
      refine zq_wg 1 (pc' := 17) (lv' := [some (.int a0)]) (st' := [.int (0 : Int32)]) (h' := h) rfl ?_
      exact zr_ri rfl rfl rfl hf
    · have hf := zo_f hf b2
      refine zq_wg 2 (pc' := 17) (lv' := [some (.int a0)]) (st' := [.int (1 : Int32)]) (h' := h) rfl ?_
      exact zr_ri rfl rfl rfl hf
set_option maxRecDepth 4000 in
def zm_rank (sc : zX) (a0 : Int32) (h : zH) : Option (Int32 × zH) := zo_c (zm_isLetter sc a0 h) (fun v2 h1 => if v2 = 0 then (some ((a0 - (21 : Int32)), h1)) else (some ((a0 - (96 : Int32)), h1)))
set_option maxRecDepth 4000 in
theorem zm_rank_ok (sc : zX) (d : Nat) (hd : 1 ≤ d) {a0 : Int32} {h : zH} {ro_ : Int32} {ho_ : zH} (hf : zm_rank sc a0 h = some (ro_, ho_)) : zq_wm sc d 157 [.int a0] h (some (.int ro_), ho_) := by
  unfold zm_rank at hf
  obtain ⟨d, rfl⟩ : ∃ d', d = d' + 1 := ⟨d - 1, by omega⟩
  have hd : 0 ≤ d := by omega
  show zq_wp sc (d + 1) 157 0 [some (.int a0)] [] h _
  refine zq_wg 1 (pc' := 1) (lv' := [some (.int a0)]) (st' := [.int a0]) (h' := h) rfl ?_
  obtain ⟨v2, h1, e3, hf⟩ := zo_c_s hf
  refine zr_cs zq_m156 [.int a0] [] rfl rfl (by decide) rfl rfl rfl (Nat.le_of_ble_eq_true rfl) (Nat.le_of_ble_eq_true rfl) (zm_isLetter_ok sc d (by omega) e3) ?_
  refine zq_wg 0 (pc' := 4) (lv' := [some (.int a0)]) (st' := [.int v2]) (h' := h1) rfl ?_
  refine zr_if (v2 = 0) 14 7 (st' := []) rfl rfl (fun b4 => ?_) (fun b4 => ?_)
  · have hf := zo_t hf b4
    refine zq_wg 3 (pc' := 18) (lv' := [some (.int a0)]) (st' := [.int (a0 - (21 : Int32))]) (h' := h1) rfl ?_
    exact zr_ri rfl rfl rfl hf
  · have hf := zo_f hf b4
    refine zq_wg 4 (pc' := 18) (lv' := [some (.int a0)]) (st' := [.int (a0 - (96 : Int32))]) (h' := h1) rfl ?_
    exact zr_ri rfl rfl rfl hf
set_option maxRecDepth 4000 in
def zm_isDigit (sc : zX) (a0 : Int32) (h : zH) : Option (Int32 × zH) := if a0 < (48 : Int32) then (some ((0 : Int32), h)) else (if (57 : Int32) < a0 then (some ((0 : Int32), h)) else (some ((1 : Int32), h)))
set_option maxRecDepth 4000 in
theorem zm_isDigit_ok (sc : zX) (d : Nat) (hd : 0 ≤ d) {a0 : Int32} {h : zH} {ro_ : Int32} {ho_ : zH} (hf : zm_isDigit sc a0 h = some (ro_, ho_)) : zq_wm sc d 158 [.int a0] h (some (.int ro_), ho_) := by
  unfold zm_isDigit at hf
  show zq_wp sc d 158 0 [some (.int a0)] [] h _
  refine zq_wg 2 (pc' := 3) (lv' := [some (.int a0)]) (st' := [.int (48 : Int32), .int a0]) (h' := h) rfl ?_
  refine zr_if (a0 < (48 : Int32)) 16 6 (st' := []) rfl rfl (fun b1 => ?_) (fun b1 => ?_)
  · have hf := zo_t hf b1
    refine zq_wg 1 (pc' := 17) (lv' := [some (.int a0)]) (st' := [.int (0 : Int32)]) (h' := h) rfl ?_
    exact zr_ri rfl rfl rfl hf
  · have hf := zo_f hf b1
    refine zq_wg 2 (pc' := 9) (lv' := [some (.int a0)]) (st' := [.int (57 : Int32), .int a0]) (h' := h) rfl ?_
    refine zr_if ((57 : Int32) < a0) 16 12 (st' := []) rfl rfl (fun b2 => ?_) (fun b2 => ?_)
    · have hf := zo_t hf b2
      refine zq_wg 1 (pc' := 17) (lv' := [some (.int a0)]) (st' := [.int (0 : Int32)]) (h' := h) rfl ?_
      exact zr_ri rfl rfl rfl hf
    · have hf := zo_f hf b2
      refine zq_wg 2 (pc' := 17) (lv' := [some (.int a0)]) (st' := [.int (1 : Int32)]) (h' := h) rfl ?_
      exact zr_ri rfl rfl rfl hf
set_option maxRecDepth 4000 in
def zm_isSignOf (sc : zX) (a0 : Int32) (h : zH) : Option (Int32 × zH) := zo_l (fun  (h1 : zH) => some ((1 : Int32), h1)) (fun j48_1 => if a0 = (40 : Int32) then (j48_1  h) else (if a0 = (41 : Int32) then (j48_1  h) else (if a0 = (59 : Int32) then (j48_1  h) else (if a0 = (61 : Int32) then (j48_1  h) else (if a0 = (60 : Int32) then (j48_1  h) else (if a0 = (43 : Int32) then (j48_1  h) else (if a0 = (45 : Int32) then (j48_1  h) else (if a0 = (42 : Int32) then (j48_1  h) else (some ((0 : Int32), h))))))))))
set_option maxRecDepth 4000 in
theorem zm_isSignOf_ok (sc : zX) (d : Nat) (hd : 0 ≤ d) {a0 : Int32} {h : zH} {ro_ : Int32} {ho_ : zH} (hf : zm_isSignOf sc a0 h = some (ro_, ho_)) : zq_wm sc d 159 [.int a0] h (some (.int ro_), ho_) := by
  unfold zm_isSignOf at hf
  show zq_wp sc d 159 0 [some (.int a0)] [] h _
  refine zq_wg 2 (pc' := 3) (lv' := [some (.int a0)]) (st' := [.int (40 : Int32), .int a0]) (h' := h) rfl ?_
  obtain ⟨j48_1, hjj48_1, hf⟩ := zo_lj hf
  have kj48_1 : ∀  (h1 : zH), j48_1 h1 = some (ro_, ho_) → zq_wp sc d 159 48 [none] [] h1 (some (.int ro_), ho_) := by
    intro h1 hf
    rw [hjj48_1] at hf
    refine zq_wg 2 (pc' := 53) (lv' := [none]) (st' := [.int (1 : Int32)]) (h' := h1) rfl ?_
    exact zr_ri rfl rfl rfl hf
  refine zr_if (a0 = (40 : Int32)) 48 6 (st' := []) rfl rfl (fun b2 => ?_) (fun b2 => ?_)
  · have hf := zo_t hf b2
    refine zq_fg [none] (zq_lvle_n zq_lvle_nil) ?_
    exact kj48_1  h hf
  · have hf := zo_f hf b2
    refine zq_wg 2 (pc' := 9) (lv' := [some (.int a0)]) (st' := [.int (41 : Int32), .int a0]) (h' := h) rfl ?_
    refine zr_if (a0 = (41 : Int32)) 48 12 (st' := []) rfl rfl (fun b3 => ?_) (fun b3 => ?_)
    · have hf := zo_t hf b3
      refine zq_fg [none] (zq_lvle_n zq_lvle_nil) ?_
      exact kj48_1  h hf
    · have hf := zo_f hf b3
      refine zq_wg 2 (pc' := 15) (lv' := [some (.int a0)]) (st' := [.int (59 : Int32), .int a0]) (h' := h) rfl ?_
      refine zr_if (a0 = (59 : Int32)) 48 18 (st' := []) rfl rfl (fun b4 => ?_) (fun b4 => ?_)
      · have hf := zo_t hf b4
        refine zq_fg [none] (zq_lvle_n zq_lvle_nil) ?_
        exact kj48_1  h hf
      · have hf := zo_f hf b4
        refine zq_wg 2 (pc' := 21) (lv' := [some (.int a0)]) (st' := [.int (61 : Int32), .int a0]) (h' := h) rfl ?_
        refine zr_if (a0 = (61 : Int32)) 48 24 (st' := []) rfl rfl (fun b5 => ?_) (fun b5 => ?_)
        · have hf := zo_t hf b5
          refine zq_fg [none] (zq_lvle_n zq_lvle_nil) ?_
          exact kj48_1  h hf
        · have hf := zo_f hf b5
          refine zq_wg 2 (pc' := 27) (lv' := [some (.int a0)]) (st' := [.int (60 : Int32), .int a0]) (h' := h) rfl ?_
          refine zr_if (a0 = (60 : Int32)) 48 30 (st' := []) rfl rfl (fun b6 => ?_) (fun b6 => ?_)
          · have hf := zo_t hf b6
            refine zq_fg [none] (zq_lvle_n zq_lvle_nil) ?_
            exact kj48_1  h hf
          · have hf := zo_f hf b6
            refine zq_wg 2 (pc' := 33) (lv' := [some (.int a0)]) (st' := [.int (43 : Int32), .int a0]) (h' := h) rfl ?_
            refine zr_if (a0 = (43 : Int32)) 48 36 (st' := []) rfl rfl (fun b7 => ?_) (fun b7 => ?_)
            · have hf := zo_t hf b7
              refine zq_fg [none] (zq_lvle_n zq_lvle_nil) ?_
              exact kj48_1  h hf
            · have hf := zo_f hf b7
              refine zq_wg 2 (pc' := 39) (lv' := [some (.int a0)]) (st' := [.int (45 : Int32), .int a0]) (h' := h) rfl ?_
              refine zr_if (a0 = (45 : Int32)) 48 42 (st' := []) rfl rfl (fun b8 => ?_) (fun b8 => ?_)
              · have hf := zo_t hf b8
                refine zq_fg [none] (zq_lvle_n zq_lvle_nil) ?_
                exact kj48_1  h hf
              · have hf := zo_f hf b8
                refine zq_wg 2 (pc' := 45) (lv' := [some (.int a0)]) (st' := [.int (42 : Int32), .int a0]) (h' := h) rfl ?_
                refine zr_if (a0 = (42 : Int32)) 48 52 (st' := []) rfl rfl (fun b9 => ?_) (fun b9 => ?_)
                · have hf := zo_t hf b9
                  refine zq_fg [none] (zq_lvle_n zq_lvle_nil) ?_
                  exact kj48_1  h hf
                · have hf := zo_f hf b9
                  refine zq_wg 1 (pc' := 53) (lv' := [some (.int a0)]) (st' := [.int (0 : Int32)]) (h' := h) rfl ?_
                  exact zr_ri rfl rfl rfl hf
set_option maxRecDepth 4000 in
def zm_cutAll_l159 (sc : zX) : Nat → Nat → Int32 → Int32 → Int32 → Int64 → zH → (Nat → Int32 → Int32 → Int32 → Int64 → zH → Option (Unit × zH)) → Option (Unit × zH)
  | 0, _, _, _, _, _, _, _ => none
  | n + 1, y54, y55, y56, y57, y58, h59, k218 => zo_b (zo_gI h59 10 y54 3) (fun v60 => if v60 ≤ y56 then (k218 y54 y55 y56 y57 y58 h59) else (zo_b (zo_gR h59 10 y54 1) (fun v63 => zo_b (zq_rdI sc h59 v63 y56) (fun v65 => zo_c (zm_isDigit sc v65 h59) (fun v68 h67 => if v68 = 0 then (k218 y54 y55 y56 y57 y58 h67) else (zo_l (fun (x71 : Nat) (x72 : Int32) (x73 : Int32) (x74 : Int32) (x75 : Int64) (h76 : zH) => zm_cutAll_l159 sc n x71 x72 (x73 + (1 : Int32)) x74 x75 h76 k218) (fun j210_76 => if (4 : Int32) ≤ (y56 - y57) then (j210_76 y54 y55 y56 y57 y58 h67) else (zo_b (zo_gR h67 10 y54 1) (fun v78 => zo_b (zq_rdI sc h67 v78 y56) (fun v80 => j210_76 y54 y55 y56 y57 ((((10 : Int64) * y58) + v80.toInt64) - (48 : Int64)) h67))))))))))
set_option maxRecDepth 4000 in
def zm_cutAll_l70 (sc : zX) : Nat → Nat → Int32 → Int32 → Int32 → Int64 → zH → (Nat → Int32 → Int32 → Int32 → Int64 → zH → Option (Unit × zH)) → Option (Unit × zH)
  | 0, _, _, _, _, _, _, _ => none
  | n + 1, y94, y95, y96, y97, y98, h99, k129 => zo_b (zo_gI h99 10 y94 3) (fun v100 => if v100 ≤ y96 then (k129 y94 y95 y96 y97 y98 h99) else (zo_b (zo_gR h99 10 y94 1) (fun v103 => zo_b (zq_rdI sc h99 v103 y96) (fun v105 => zo_c (zm_isLetter sc v105 h99) (fun v108 h107 => if v108 = 0 then (k129 y94 y95 y96 y97 y98 h107) else (zo_l (fun (x111 : Nat) (x112 : Int32) (x113 : Int32) (x114 : Int32) (x115 : Int64) (h116 : zH) => zm_cutAll_l70 sc n x111 x112 (x113 + (1 : Int32)) x114 x115 h116 k129) (fun j121_116 => if (8 : Int32) ≤ (y96 - y97) then (j121_116 y94 y95 y96 y97 y98 h107) else (zo_b (zo_gR h107 10 y94 1) (fun v118 => zo_b (zq_rdI sc h107 v118 y96) (fun v120 => zo_c (zm_rank sc v120 h107) (fun v123 h122 => j121_116 y94 y95 y96 y97 (((37 : Int64) * y98) + v123.toInt64) h122)))))))))))
set_option maxRecDepth 4000 in
def zm_cutAll_l17 (sc : zX) : Nat → Nat → Int32 → Int32 → zH → (Nat → Int32 → zH → Option (Unit × zH)) → Option (Unit × zH)
  | 0, _, _, _, _, _ => none
  | n + 1, y7, y8, y9, h10, k279 => zo_b (zo_gI h10 10 y7 3) (fun v11 => if v11 ≤ y9 then (k279 y7 y8 h10) else (zo_b (zo_gR h10 10 y7 1) (fun v14 => zo_b (zq_rdI sc h10 v14 y9) (fun v16 => zo_l (fun (x18 : Nat) (x19 : Int32) (x20 : Int32) (h21 : zH) => zm_cutAll_l17 sc n x18 x19 (x20 + (1 : Int32)) h21 k279) (fun j44_21 => if v16 = (10 : Int32) then (j44_21 y7 y8 y9 h10) else (if v16 = (32 : Int32) then (j44_21 y7 y8 y9 h10) else (zo_b (zo_gR h10 10 y7 5) (fun v24 => zo_b (zq_wrX 1 h10 v24 y8 y9) (fun h26 => zo_c (zm_isLetter sc v16 h26) (fun v29 h28 => zo_l (fun (x31 : Nat) (x32 : Int32) (x33 : Int32) (x34 : Int64) (h35 : zH) => zo_b (zo_gR h35 10 x31 6) (fun v36 => zo_b (zq_wrL h35 v36 x32 x34) (fun h38 => zm_cutAll_l17 sc n x31 (x32 + (1 : Int32)) x33 h38 k279))) (fun j265_35 => if v29 = 0 then (zo_c (zm_isDigit sc v16 h28) (fun v42 h41 => if v42 = 0 then (zo_b (zo_gR h41 10 y7 4) (fun v45 => zo_c (zm_isSignOf sc v16 h41) (fun v48 h47 => zo_l (if v48 = 0 then (4 : Int32) else (3 : Int32)) (fun (x50 : Int32) => zo_b (zq_wrX 1 h47 v45 y8 x50) (fun h51 => j265_35 y7 y8 (y9 + (1 : Int32)) v16.toInt64 h51))))) else (zm_cutAll_l159 sc zo_F y7 y8 y9 y9 (0 : Int64) h41 (fun (x82 : Nat) (x83 : Int32) (x84 : Int32) (x85 : Int32) (x86 : Int64) (h87 : zH) => zo_b (zo_gR h87 10 x82 4) (fun v88 => zo_l (if (x84 - x85) ≤ (4 : Int32) then (2 : Int32) else (4 : Int32)) (fun (x90 : Int32) => zo_b (zq_wrX 1 h87 v88 x83 x90) (fun h91 => j265_35 x82 x83 x84 x86 h91))))))) else (zm_cutAll_l70 sc zo_F y7 y8 y9 y9 (0 : Int64) h28 (fun (x125 : Nat) (x126 : Int32) (x127 : Int32) (x128 : Int32) (x129 : Int64) (h130 : zH) => zo_b (zo_gR h130 10 x125 4) (fun v131 => zo_l (if (x127 - x128) ≤ (8 : Int32) then (1 : Int32) else (4 : Int32)) (fun (x133 : Int32) => zo_b (zq_wrX 1 h130 v131 x126 x133) (fun h134 => j265_35 x125 x126 x127 x129 h134))))))))))))))))
set_option maxRecDepth 4000 in
def zm_cutAll (sc : zX) (a0 : Nat) (h : zH) : Option (Unit × zH) := zo_b (zo_gI h 10 a0 2) (fun v1 => zo_b (zo_pI h 10 a0 3 v1) (fun h3 => zo_b (zo_pI h3 10 a0 2 (0 : Int32)) (fun h5 => zm_cutAll_l17 sc zo_F a0 (0 : Int32) (0 : Int32) h5 (fun (x137 : Nat) (x138 : Int32) (h139 : zH) => zo_b (zo_gR h139 10 x137 4) (fun v140 => zo_b (zq_wrX 1 h139 v140 x138 (0 : Int32)) (fun h142 => zo_b (zo_gR h142 10 x137 5) (fun v144 => zo_b (zo_gI h142 10 x137 3) (fun v146 => zo_b (zq_wrX 1 h142 v144 x138 v146) (fun h148 => zo_b (zo_pI h148 10 x137 7 (0 : Int32)) (fun h150 => zo_b (zo_pI h150 10 x137 8 (0 : Int32)) (fun h152 => some ((), h152))))))))))))
set_option maxRecDepth 4000 in
theorem zm_cutAll_l159_ok (sc : zX) (d : Nat) (hd : 1 ≤ d) : ∀ (n : Nat) (y54 : Nat) (y55 : Int32) (y56 : Int32) (y57 : Int32) (y58 : Int64) (h59 : zH) (k218 : Nat → Int32 → Int32 → Int32 → Int64 → zH → Option (Unit × zH)) (ro_ : Unit) (ho_ : zH), (∀ (z0 : Nat) (z1 : Int32) (z2 : Int32) (z3 : Int32) (z4 : Int64) (hz : zH), k218 z0 z1 z2 z3 z4 hz = some (ro_, ho_) → zq_wp sc (d + 1) 155 218 [some (.ref z0), some (.int z1), some (.int z2), none, some (.int z3), some (.long z4), none] [] hz (none, ho_)) → zm_cutAll_l159 sc n y54 y55 y56 y57 y58 h59 k218 = some (ro_, ho_) → zq_wp sc (d + 1) 155 159 [some (.ref y54), some (.int y55), some (.int y56), none, some (.int y57), some (.long y58), none] [] h59 (none, ho_) := by
  intro n
  induction n with
  | zero => intro y54 y55 y56 y57 y58 h59 k218 ro_ ho_ hk218 hf; cases hf
  | succ n ih =>
    intro y54 y55 y56 y57 y58 h59 k218 ro_ ho_ hk218 hf
    refine zq_wg 2 (pc' := 161) (lv' := [some (.ref y54), some (.int y55), some (.int y56), none, some (.int y57), some (.long y58), none]) (st' := [.ref y54, .int y56]) (h' := h59) rfl ?_
    obtain ⟨v60, e61, hf⟩ := zo_b_s hf
    refine zr_gI rfl rfl (by decide) rfl e61 ?_
    refine zr_if (v60 ≤ y56) 218 167 (st' := []) rfl rfl (fun b62 => ?_) (fun b62 => ?_)
    · have hf := zo_t hf b62
      exact hk218 y54 y55 y56 y57 y58 h59 hf
    · have hf := zo_f hf b62
      refine zq_wg 1 (pc' := 168) (lv' := [some (.ref y54), some (.int y55), some (.int y56), none, some (.int y57), some (.long y58), none]) (st' := [.ref y54]) (h' := h59) rfl ?_
      obtain ⟨v63, e64, hf⟩ := zo_b_s hf
      refine zr_gR rfl rfl (by decide) rfl e64 ?_
      refine zq_wg 1 (pc' := 172) (lv' := [some (.ref y54), some (.int y55), some (.int y56), none, some (.int y57), some (.long y58), none]) (st' := [.int y56, .ref v63]) (h' := h59) rfl ?_
      obtain ⟨v65, e66, hf⟩ := zo_b_s hf
      refine zr_iald rfl e66 ?_
      obtain ⟨v68, h67, e69, hf⟩ := zo_c_s hf
      refine zr_cs zq_m158 [.int v65] [] rfl rfl (by decide) rfl rfl rfl (Nat.le_of_ble_eq_true rfl) (Nat.le_of_ble_eq_true rfl) (zm_isDigit_ok sc d (by omega) e69) ?_
      refine zq_wg 0 (pc' := 176) (lv' := [some (.ref y54), some (.int y55), some (.int y56), none, some (.int y57), some (.long y58), none]) (st' := [.int v68]) (h' := h67) rfl ?_
      refine zr_if (v68 = 0) 218 179 (st' := []) rfl rfl (fun b70 => ?_) (fun b70 => ?_)
      · have hf := zo_t hf b70
        exact hk218 y54 y55 y56 y57 y58 h67 hf
      · have hf := zo_f hf b70
        refine zq_wg 4 (pc' := 184) (lv' := [some (.ref y54), some (.int y55), some (.int y56), none, some (.int y57), some (.long y58), none]) (st' := [.int (4 : Int32), .int (y56 - y57)]) (h' := h67) rfl ?_
        obtain ⟨j210_76, hjj210_76, hf⟩ := zo_lj hf
        have kj210_76 : ∀ (x71 : Nat) (x72 : Int32) (x73 : Int32) (x74 : Int32) (x75 : Int64) (h76 : zH), j210_76 x71 x72 x73 x74 x75 h76 = some (ro_, ho_) → zq_wp sc (d + 1) 155 210 [some (.ref x71), some (.int x72), some (.int x73), none, some (.int x74), none, none] [.long x75] h76 (none, ho_) := by
          intro x71 x72 x73 x74 x75 h76 hf
          rw [hjj210_76] at hf
          refine zq_wg 3 (pc' := 159) (lv' := [some (.ref x71), some (.int x72), some (.int (x73 + (1 : Int32))), none, some (.int x74), some (.long x75), none]) (st' := []) (h' := h76) rfl ?_
          exact ih x71 x72 (x73 + (1 : Int32)) x74 x75 h76 _ _ _ hk218 hf
        refine zr_if ((4 : Int32) ≤ (y56 - y57)) 208 187 (st' := []) rfl rfl (fun b77 => ?_) (fun b77 => ?_)
        · have hf := zo_t hf b77
          refine zq_wg 1 (pc' := 210) (lv' := [some (.ref y54), some (.int y55), some (.int y56), none, some (.int y57), some (.long y58), none]) (st' := [.long y58]) (h' := h67) rfl ?_
          refine zq_fg [some (.ref y54), some (.int y55), some (.int y56), none, some (.int y57), none, none] (zq_lvle_s (zq_lvle_s (zq_lvle_s (zq_lvle_s (zq_lvle_s (zq_lvle_n (zq_lvle_s zq_lvle_nil))))))) ?_
          exact kj210_76 y54 y55 y56 y57 y58 h67 hf
        · have hf := zo_f hf b77
          refine zq_wg 4 (pc' := 194) (lv' := [some (.ref y54), some (.int y55), some (.int y56), none, some (.int y57), some (.long y58), none]) (st' := [.ref y54, .long ((10 : Int64) * y58)]) (h' := h67) rfl ?_
          obtain ⟨v78, e79, hf⟩ := zo_b_s hf
          refine zr_gR rfl rfl (by decide) rfl e79 ?_
          refine zq_wg 1 (pc' := 198) (lv' := [some (.ref y54), some (.int y55), some (.int y56), none, some (.int y57), some (.long y58), none]) (st' := [.int y56, .ref v78, .long ((10 : Int64) * y58)]) (h' := h67) rfl ?_
          obtain ⟨v80, e81, hf⟩ := zo_b_s hf
          refine zr_iald rfl e81 ?_
          refine zq_wg 5 (pc' := 210) (lv' := [some (.ref y54), some (.int y55), some (.int y56), none, some (.int y57), some (.long y58), none]) (st' := [.long ((((10 : Int64) * y58) + v80.toInt64) - (48 : Int64))]) (h' := h67) rfl ?_
          refine zq_fg [some (.ref y54), some (.int y55), some (.int y56), none, some (.int y57), none, none] (zq_lvle_s (zq_lvle_s (zq_lvle_s (zq_lvle_s (zq_lvle_s (zq_lvle_n (zq_lvle_s zq_lvle_nil))))))) ?_
          exact kj210_76 y54 y55 y56 y57 ((((10 : Int64) * y58) + v80.toInt64) - (48 : Int64)) h67 hf
set_option maxRecDepth 4000 in
theorem zm_cutAll_l70_ok (sc : zX) (d : Nat) (hd : 1 ≤ d) : ∀ (n : Nat) (y94 : Nat) (y95 : Int32) (y96 : Int32) (y97 : Int32) (y98 : Int64) (h99 : zH) (k129 : Nat → Int32 → Int32 → Int32 → Int64 → zH → Option (Unit × zH)) (ro_ : Unit) (ho_ : zH), (∀ (z0 : Nat) (z1 : Int32) (z2 : Int32) (z3 : Int32) (z4 : Int64) (hz : zH), k129 z0 z1 z2 z3 z4 hz = some (ro_, ho_) → zq_wp sc (d + 1) 155 129 [some (.ref z0), some (.int z1), some (.int z2), none, some (.int z3), some (.long z4), none] [] hz (none, ho_)) → zm_cutAll_l70 sc n y94 y95 y96 y97 y98 h99 k129 = some (ro_, ho_) → zq_wp sc (d + 1) 155 70 [some (.ref y94), some (.int y95), some (.int y96), none, some (.int y97), some (.long y98), none] [] h99 (none, ho_) := by
  intro n
  induction n with
  | zero => intro y94 y95 y96 y97 y98 h99 k129 ro_ ho_ hk129 hf; cases hf
  | succ n ih =>
    intro y94 y95 y96 y97 y98 h99 k129 ro_ ho_ hk129 hf
    refine zq_wg 2 (pc' := 72) (lv' := [some (.ref y94), some (.int y95), some (.int y96), none, some (.int y97), some (.long y98), none]) (st' := [.ref y94, .int y96]) (h' := h99) rfl ?_
    obtain ⟨v100, e101, hf⟩ := zo_b_s hf
    refine zr_gI rfl rfl (by decide) rfl e101 ?_
    refine zr_if (v100 ≤ y96) 129 78 (st' := []) rfl rfl (fun b102 => ?_) (fun b102 => ?_)
    · have hf := zo_t hf b102
      exact hk129 y94 y95 y96 y97 y98 h99 hf
    · have hf := zo_f hf b102
      refine zq_wg 1 (pc' := 79) (lv' := [some (.ref y94), some (.int y95), some (.int y96), none, some (.int y97), some (.long y98), none]) (st' := [.ref y94]) (h' := h99) rfl ?_
      obtain ⟨v103, e104, hf⟩ := zo_b_s hf
      refine zr_gR rfl rfl (by decide) rfl e104 ?_
      refine zq_wg 1 (pc' := 83) (lv' := [some (.ref y94), some (.int y95), some (.int y96), none, some (.int y97), some (.long y98), none]) (st' := [.int y96, .ref v103]) (h' := h99) rfl ?_
      obtain ⟨v105, e106, hf⟩ := zo_b_s hf
      refine zr_iald rfl e106 ?_
      obtain ⟨v108, h107, e109, hf⟩ := zo_c_s hf
      refine zr_cs zq_m156 [.int v105] [] rfl rfl (by decide) rfl rfl rfl (Nat.le_of_ble_eq_true rfl) (Nat.le_of_ble_eq_true rfl) (zm_isLetter_ok sc d (by omega) e109) ?_
      refine zq_wg 0 (pc' := 87) (lv' := [some (.ref y94), some (.int y95), some (.int y96), none, some (.int y97), some (.long y98), none]) (st' := [.int v108]) (h' := h107) rfl ?_
      refine zr_if (v108 = 0) 129 90 (st' := []) rfl rfl (fun b110 => ?_) (fun b110 => ?_)
      · have hf := zo_t hf b110
        exact hk129 y94 y95 y96 y97 y98 h107 hf
      · have hf := zo_f hf b110
        refine zq_wg 4 (pc' := 96) (lv' := [some (.ref y94), some (.int y95), some (.int y96), none, some (.int y97), some (.long y98), none]) (st' := [.int (8 : Int32), .int (y96 - y97)]) (h' := h107) rfl ?_
        obtain ⟨j121_116, hjj121_116, hf⟩ := zo_lj hf
        have kj121_116 : ∀ (x111 : Nat) (x112 : Int32) (x113 : Int32) (x114 : Int32) (x115 : Int64) (h116 : zH), j121_116 x111 x112 x113 x114 x115 h116 = some (ro_, ho_) → zq_wp sc (d + 1) 155 121 [some (.ref x111), some (.int x112), some (.int x113), none, some (.int x114), none, none] [.long x115] h116 (none, ho_) := by
          intro x111 x112 x113 x114 x115 h116 hf
          rw [hjj121_116] at hf
          refine zq_wg 3 (pc' := 70) (lv' := [some (.ref x111), some (.int x112), some (.int (x113 + (1 : Int32))), none, some (.int x114), some (.long x115), none]) (st' := []) (h' := h116) rfl ?_
          exact ih x111 x112 (x113 + (1 : Int32)) x114 x115 h116 _ _ _ hk129 hf
        refine zr_if ((8 : Int32) ≤ (y96 - y97)) 119 99 (st' := []) rfl rfl (fun b117 => ?_) (fun b117 => ?_)
        · have hf := zo_t hf b117
          refine zq_wg 1 (pc' := 121) (lv' := [some (.ref y94), some (.int y95), some (.int y96), none, some (.int y97), some (.long y98), none]) (st' := [.long y98]) (h' := h107) rfl ?_
          refine zq_fg [some (.ref y94), some (.int y95), some (.int y96), none, some (.int y97), none, none] (zq_lvle_s (zq_lvle_s (zq_lvle_s (zq_lvle_s (zq_lvle_s (zq_lvle_n (zq_lvle_s zq_lvle_nil))))))) ?_
          exact kj121_116 y94 y95 y96 y97 y98 h107 hf
        · have hf := zo_f hf b117
          refine zq_wg 4 (pc' := 106) (lv' := [some (.ref y94), some (.int y95), some (.int y96), none, some (.int y97), some (.long y98), none]) (st' := [.ref y94, .long ((37 : Int64) * y98)]) (h' := h107) rfl ?_
          obtain ⟨v118, e119, hf⟩ := zo_b_s hf
          refine zr_gR rfl rfl (by decide) rfl e119 ?_
          refine zq_wg 1 (pc' := 110) (lv' := [some (.ref y94), some (.int y95), some (.int y96), none, some (.int y97), some (.long y98), none]) (st' := [.int y96, .ref v118, .long ((37 : Int64) * y98)]) (h' := h107) rfl ?_
          obtain ⟨v120, e121, hf⟩ := zo_b_s hf
          refine zr_iald rfl e121 ?_
          obtain ⟨v123, h122, e124, hf⟩ := zo_c_s hf
          refine zr_cs zq_m157 [.int v120] [.long ((37 : Int64) * y98)] rfl rfl (by decide) rfl rfl rfl (Nat.le_of_ble_eq_true rfl) (Nat.le_of_ble_eq_true rfl) (zm_rank_ok sc d (by omega) e124) ?_
          refine zq_wg 0 (pc' := 114) (lv' := [some (.ref y94), some (.int y95), some (.int y96), none, some (.int y97), some (.long y98), none]) (st' := [.int v123, .long ((37 : Int64) * y98)]) (h' := h122) rfl ?_
          refine zq_wg 3 (pc' := 121) (lv' := [some (.ref y94), some (.int y95), some (.int y96), none, some (.int y97), some (.long y98), none]) (st' := [.long (((37 : Int64) * y98) + v123.toInt64)]) (h' := h122) rfl ?_
          refine zq_fg [some (.ref y94), some (.int y95), some (.int y96), none, some (.int y97), none, none] (zq_lvle_s (zq_lvle_s (zq_lvle_s (zq_lvle_s (zq_lvle_s (zq_lvle_n (zq_lvle_s zq_lvle_nil))))))) ?_
          exact kj121_116 y94 y95 y96 y97 (((37 : Int64) * y98) + v123.toInt64) h122 hf
set_option maxRecDepth 4000 in
theorem zm_cutAll_l17_ok (sc : zX) (d : Nat) (hd : 1 ≤ d) : ∀ (n : Nat) (y7 : Nat) (y8 : Int32) (y9 : Int32) (h10 : zH) (k279 : Nat → Int32 → zH → Option (Unit × zH)) (ro_ : Unit) (ho_ : zH), (∀ (z0 : Nat) (z1 : Int32) (hz : zH), k279 z0 z1 hz = some (ro_, ho_) → zq_wp sc (d + 1) 155 279 [some (.ref z0), some (.int z1), none, none, none, none, none] [] hz (none, ho_)) → zm_cutAll_l17 sc n y7 y8 y9 h10 k279 = some (ro_, ho_) → zq_wp sc (d + 1) 155 17 [some (.ref y7), some (.int y8), some (.int y9), none, none, none, none] [] h10 (none, ho_) := by
  intro n
  induction n with
  | zero => intro y7 y8 y9 h10 k279 ro_ ho_ hk279 hf; cases hf
  | succ n ih =>
    intro y7 y8 y9 h10 k279 ro_ ho_ hk279 hf
    refine zq_wg 2 (pc' := 19) (lv' := [some (.ref y7), some (.int y8), some (.int y9), none, none, none, none]) (st' := [.ref y7, .int y9]) (h' := h10) rfl ?_
    obtain ⟨v11, e12, hf⟩ := zo_b_s hf
    refine zr_gI rfl rfl (by decide) rfl e12 ?_
    refine zr_if (v11 ≤ y9) 279 25 (st' := []) rfl rfl (fun b13 => ?_) (fun b13 => ?_)
    · have hf := zo_t hf b13
      refine zq_fg [some (.ref y7), some (.int y8), none, none, none, none, none] (zq_lvle_s (zq_lvle_s (zq_lvle_n (zq_lvle_s (zq_lvle_s (zq_lvle_s (zq_lvle_s zq_lvle_nil))))))) ?_
      exact hk279 y7 y8 h10 hf
    · have hf := zo_f hf b13
      refine zq_wg 1 (pc' := 26) (lv' := [some (.ref y7), some (.int y8), some (.int y9), none, none, none, none]) (st' := [.ref y7]) (h' := h10) rfl ?_
      obtain ⟨v14, e15, hf⟩ := zo_b_s hf
      refine zr_gR rfl rfl (by decide) rfl e15 ?_
      refine zq_wg 1 (pc' := 30) (lv' := [some (.ref y7), some (.int y8), some (.int y9), none, none, none, none]) (st' := [.int y9, .ref v14]) (h' := h10) rfl ?_
      obtain ⟨v16, e17, hf⟩ := zo_b_s hf
      refine zr_iald rfl e17 ?_
      refine zq_wg 3 (pc' := 35) (lv' := [some (.ref y7), some (.int y8), some (.int y9), some (.int v16), none, none, none]) (st' := [.int (10 : Int32), .int v16]) (h' := h10) rfl ?_
      obtain ⟨j44_21, hjj44_21, hf⟩ := zo_lj hf
      have kj44_21 : ∀ (x18 : Nat) (x19 : Int32) (x20 : Int32) (h21 : zH), j44_21 x18 x19 x20 h21 = some (ro_, ho_) → zq_wp sc (d + 1) 155 44 [some (.ref x18), some (.int x19), some (.int x20), none, none, none, none] [] h21 (none, ho_) := by
        intro x18 x19 x20 h21 hf
        rw [hjj44_21] at hf
        refine zq_wg 2 (pc' := 17) (lv' := [some (.ref x18), some (.int x19), some (.int (x20 + (1 : Int32))), none, none, none, none]) (st' := []) (h' := h21) rfl ?_
        exact ih x18 x19 (x20 + (1 : Int32)) h21 _ _ _ hk279 hf
      refine zr_if (v16 = (10 : Int32)) 44 38 (st' := []) rfl rfl (fun b22 => ?_) (fun b22 => ?_)
      · have hf := zo_t hf b22
        refine zq_fg [some (.ref y7), some (.int y8), some (.int y9), none, none, none, none] (zq_lvle_s (zq_lvle_s (zq_lvle_s (zq_lvle_n (zq_lvle_s (zq_lvle_s (zq_lvle_s zq_lvle_nil))))))) ?_
        exact kj44_21 y7 y8 y9 h10 hf
      · have hf := zo_f hf b22
        refine zq_wg 2 (pc' := 41) (lv' := [some (.ref y7), some (.int y8), some (.int y9), some (.int v16), none, none, none]) (st' := [.int (32 : Int32), .int v16]) (h' := h10) rfl ?_
        refine zr_if (v16 = (32 : Int32)) 44 50 (st' := []) rfl rfl (fun b23 => ?_) (fun b23 => ?_)
        · have hf := zo_t hf b23
          refine zq_fg [some (.ref y7), some (.int y8), some (.int y9), none, none, none, none] (zq_lvle_s (zq_lvle_s (zq_lvle_s (zq_lvle_n (zq_lvle_s (zq_lvle_s (zq_lvle_s zq_lvle_nil))))))) ?_
          exact kj44_21 y7 y8 y9 h10 hf
        · have hf := zo_f hf b23
          refine zq_wg 5 (pc' := 57) (lv' := [some (.ref y7), some (.int y8), some (.int y9), some (.int v16), some (.int y9), some (.long (0 : Int64)), none]) (st' := [.ref y7]) (h' := h10) rfl ?_
          obtain ⟨v24, e25, hf⟩ := zo_b_s hf
          refine zr_gR rfl rfl (by decide) rfl e25 ?_
          refine zq_wg 2 (pc' := 62) (lv' := [some (.ref y7), some (.int y8), some (.int y9), some (.int v16), some (.int y9), some (.long (0 : Int64)), none]) (st' := [.int y9, .int y8, .ref v24]) (h' := h10) rfl ?_
          obtain ⟨h26, e27, hf⟩ := zo_b_s hf
          refine zr_iast rfl e27 ?_
          refine zq_wg 1 (pc' := 64) (lv' := [some (.ref y7), some (.int y8), some (.int y9), some (.int v16), some (.int y9), some (.long (0 : Int64)), none]) (st' := [.int v16]) (h' := h26) rfl ?_
          obtain ⟨v29, h28, e30, hf⟩ := zo_c_s hf
          refine zr_cs zq_m156 [.int v16] [] rfl rfl (by decide) rfl rfl rfl (Nat.le_of_ble_eq_true rfl) (Nat.le_of_ble_eq_true rfl) (zm_isLetter_ok sc d (by omega) e30) ?_
          refine zq_wg 0 (pc' := 67) (lv' := [some (.ref y7), some (.int y8), some (.int y9), some (.int v16), some (.int y9), some (.long (0 : Int64)), none]) (st' := [.int v29]) (h' := h28) rfl ?_
          obtain ⟨j265_35, hjj265_35, hf⟩ := zo_lj hf
          have kj265_35 : ∀ (x31 : Nat) (x32 : Int32) (x33 : Int32) (x34 : Int64) (h35 : zH), j265_35 x31 x32 x33 x34 h35 = some (ro_, ho_) → zq_wp sc (d + 1) 155 265 [some (.ref x31), some (.int x32), some (.int x33), none, none, some (.long x34), none] [] h35 (none, ho_) := by
            intro x31 x32 x33 x34 h35 hf
            rw [hjj265_35] at hf
            refine zq_wg 1 (pc' := 266) (lv' := [some (.ref x31), some (.int x32), some (.int x33), none, none, some (.long x34), none]) (st' := [.ref x31]) (h' := h35) rfl ?_
            obtain ⟨v36, e37, hf⟩ := zo_b_s hf
            refine zr_gR rfl rfl (by decide) rfl e37 ?_
            refine zq_wg 2 (pc' := 272) (lv' := [some (.ref x31), some (.int x32), some (.int x33), none, none, some (.long x34), none]) (st' := [.long x34, .int x32, .ref v36]) (h' := h35) rfl ?_
            obtain ⟨h38, e39, hf⟩ := zo_b_s hf
            refine zr_last rfl e39 ?_
            refine zq_wg 2 (pc' := 17) (lv' := [some (.ref x31), some (.int (x32 + (1 : Int32))), some (.int x33), none, none, some (.long x34), none]) (st' := []) (h' := h38) rfl ?_
            refine zq_fg [some (.ref x31), some (.int (x32 + (1 : Int32))), some (.int x33), none, none, none, none] (zq_lvle_s (zq_lvle_s (zq_lvle_s (zq_lvle_s (zq_lvle_s (zq_lvle_n (zq_lvle_s zq_lvle_nil))))))) ?_
            exact ih x31 (x32 + (1 : Int32)) x33 h38 _ _ _ hk279 hf
          refine zr_if (v29 = 0) 152 70 (st' := []) rfl rfl (fun b40 => ?_) (fun b40 => ?_)
          · have hf := zo_t hf b40
            refine zq_wg 1 (pc' := 153) (lv' := [some (.ref y7), some (.int y8), some (.int y9), some (.int v16), some (.int y9), some (.long (0 : Int64)), none]) (st' := [.int v16]) (h' := h28) rfl ?_
            obtain ⟨v42, h41, e43, hf⟩ := zo_c_s hf
            refine zr_cs zq_m158 [.int v16] [] rfl rfl (by decide) rfl rfl rfl (Nat.le_of_ble_eq_true rfl) (Nat.le_of_ble_eq_true rfl) (zm_isDigit_ok sc d (by omega) e43) ?_
            refine zq_wg 0 (pc' := 156) (lv' := [some (.ref y7), some (.int y8), some (.int y9), some (.int v16), some (.int y9), some (.long (0 : Int64)), none]) (st' := [.int v42]) (h' := h41) rfl ?_
            refine zr_if (v42 = 0) 240 159 (st' := []) rfl rfl (fun b44 => ?_) (fun b44 => ?_)
            · have hf := zo_t hf b44
              refine zq_wg 4 (pc' := 245) (lv' := [some (.ref y7), some (.int y8), some (.int y9), some (.int v16), some (.int y9), some (.long v16.toInt64), none]) (st' := [.ref y7]) (h' := h41) rfl ?_
              obtain ⟨v45, e46, hf⟩ := zo_b_s hf
              refine zr_gR rfl rfl (by decide) rfl e46 ?_
              refine zq_wg 2 (pc' := 250) (lv' := [some (.ref y7), some (.int y8), some (.int y9), some (.int v16), some (.int y9), some (.long v16.toInt64), none]) (st' := [.int v16, .int y8, .ref v45]) (h' := h41) rfl ?_
              obtain ⟨v48, h47, e49, hf⟩ := zo_c_s hf
              refine zr_cs zq_m159 [.int v16] [.int y8, .ref v45] rfl rfl (by decide) rfl rfl rfl (Nat.le_of_ble_eq_true rfl) (Nat.le_of_ble_eq_true rfl) (zm_isSignOf_ok sc d (by omega) e49) ?_
              refine zq_wg 0 (pc' := 253) (lv' := [some (.ref y7), some (.int y8), some (.int y9), some (.int v16), some (.int y9), some (.long v16.toInt64), none]) (st' := [.int v48, .int y8, .ref v45]) (h' := h47) rfl ?_
              obtain ⟨g261_50, hg261_50, hf⟩ := zo_lx hf
              have kg261_50 : ∀ (x50 : Int32), g261_50 x50 = some (ro_, ho_) → zq_wp sc (d + 1) 155 261 [some (.ref y7), some (.int y8), some (.int y9), some (.int v16), some (.int y9), some (.long v16.toInt64), none] [.int x50, .int y8, .ref v45] h47 (none, ho_) := by
                intro x50 hf
                rw [hg261_50] at hf
                obtain ⟨h51, e52, hf⟩ := zo_b_s hf
                refine zr_iast rfl e52 ?_
                refine zq_wg 1 (pc' := 265) (lv' := [some (.ref y7), some (.int y8), some (.int (y9 + (1 : Int32))), some (.int v16), some (.int y9), some (.long v16.toInt64), none]) (st' := []) (h' := h51) rfl ?_
                refine zq_fg [some (.ref y7), some (.int y8), some (.int (y9 + (1 : Int32))), none, none, some (.long v16.toInt64), none] (zq_lvle_s (zq_lvle_s (zq_lvle_s (zq_lvle_n (zq_lvle_n (zq_lvle_s (zq_lvle_s zq_lvle_nil))))))) ?_
                exact kj265_35 y7 y8 (y9 + (1 : Int32)) v16.toInt64 h51 hf
              refine zr_if (v48 = 0) 260 256 (st' := [.int y8, .ref v45]) rfl rfl (fun b53 => ?_) (fun b53 => ?_)
              · have hf := zo_lt hf b53
                refine zq_wg 1 (pc' := 261) (lv' := [some (.ref y7), some (.int y8), some (.int y9), some (.int v16), some (.int y9), some (.long v16.toInt64), none]) (st' := [.int (4 : Int32), .int y8, .ref v45]) (h' := h47) rfl ?_
                exact kg261_50 _ hf
              · have hf := zo_lf hf b53
                refine zq_wg 2 (pc' := 261) (lv' := [some (.ref y7), some (.int y8), some (.int y9), some (.int v16), some (.int y9), some (.long v16.toInt64), none]) (st' := [.int (3 : Int32), .int y8, .ref v45]) (h' := h47) rfl ?_
                exact kg261_50 _ hf
            · have hf := zo_f hf b44
              refine zq_fg [some (.ref y7), some (.int y8), some (.int y9), none, some (.int y9), some (.long (0 : Int64)), none] (zq_lvle_s (zq_lvle_s (zq_lvle_s (zq_lvle_n (zq_lvle_s (zq_lvle_s (zq_lvle_s zq_lvle_nil))))))) ?_
              refine zm_cutAll_l159_ok sc d hd zo_F y7 y8 y9 y9 (0 : Int64) h41 _ _ _ ?_ hf
              · intro x82 x83 x84 x85 x86 h87 hf
                refine zq_wg 1 (pc' := 219) (lv' := [some (.ref x82), some (.int x83), some (.int x84), none, some (.int x85), some (.long x86), none]) (st' := [.ref x82]) (h' := h87) rfl ?_
                obtain ⟨v88, e89, hf⟩ := zo_b_s hf
                refine zr_gR rfl rfl (by decide) rfl e89 ?_
                refine zq_wg 5 (pc' := 228) (lv' := [some (.ref x82), some (.int x83), some (.int x84), none, some (.int x85), some (.long x86), none]) (st' := [.int (4 : Int32), .int (x84 - x85), .int x83, .ref v88]) (h' := h87) rfl ?_
                obtain ⟨g236_90, hg236_90, hf⟩ := zo_lx hf
                have kg236_90 : ∀ (x90 : Int32), g236_90 x90 = some (ro_, ho_) → zq_wp sc (d + 1) 155 236 [some (.ref x82), some (.int x83), some (.int x84), none, some (.int x85), some (.long x86), none] [.int x90, .int x83, .ref v88] h87 (none, ho_) := by
                  intro x90 hf
                  rw [hg236_90] at hf
                  obtain ⟨h91, e92, hf⟩ := zo_b_s hf
                  refine zr_iast rfl e92 ?_
                  refine zq_wg 1 (pc' := 265) (lv' := [some (.ref x82), some (.int x83), some (.int x84), none, some (.int x85), some (.long x86), none]) (st' := []) (h' := h91) rfl ?_
                  refine zq_fg [some (.ref x82), some (.int x83), some (.int x84), none, none, some (.long x86), none] (zq_lvle_s (zq_lvle_s (zq_lvle_s (zq_lvle_s (zq_lvle_n (zq_lvle_s (zq_lvle_s zq_lvle_nil))))))) ?_
                  exact kj265_35 x82 x83 x84 x86 h91 hf
                refine zr_if ((x84 - x85) ≤ (4 : Int32)) 235 231 (st' := [.int x83, .ref v88]) rfl rfl (fun b93 => ?_) (fun b93 => ?_)
                · have hf := zo_lt hf b93
                  refine zq_wg 1 (pc' := 236) (lv' := [some (.ref x82), some (.int x83), some (.int x84), none, some (.int x85), some (.long x86), none]) (st' := [.int (2 : Int32), .int x83, .ref v88]) (h' := h87) rfl ?_
                  exact kg236_90 _ hf
                · have hf := zo_lf hf b93
                  refine zq_wg 2 (pc' := 236) (lv' := [some (.ref x82), some (.int x83), some (.int x84), none, some (.int x85), some (.long x86), none]) (st' := [.int (4 : Int32), .int x83, .ref v88]) (h' := h87) rfl ?_
                  exact kg236_90 _ hf
          · have hf := zo_f hf b40
            refine zq_fg [some (.ref y7), some (.int y8), some (.int y9), none, some (.int y9), some (.long (0 : Int64)), none] (zq_lvle_s (zq_lvle_s (zq_lvle_s (zq_lvle_n (zq_lvle_s (zq_lvle_s (zq_lvle_s zq_lvle_nil))))))) ?_
            refine zm_cutAll_l70_ok sc d hd zo_F y7 y8 y9 y9 (0 : Int64) h28 _ _ _ ?_ hf
            · intro x125 x126 x127 x128 x129 h130 hf
              refine zq_wg 1 (pc' := 130) (lv' := [some (.ref x125), some (.int x126), some (.int x127), none, some (.int x128), some (.long x129), none]) (st' := [.ref x125]) (h' := h130) rfl ?_
              obtain ⟨v131, e132, hf⟩ := zo_b_s hf
              refine zr_gR rfl rfl (by decide) rfl e132 ?_
              refine zq_wg 5 (pc' := 140) (lv' := [some (.ref x125), some (.int x126), some (.int x127), none, some (.int x128), some (.long x129), none]) (st' := [.int (8 : Int32), .int (x127 - x128), .int x126, .ref v131]) (h' := h130) rfl ?_
              obtain ⟨g148_133, hg148_133, hf⟩ := zo_lx hf
              have kg148_133 : ∀ (x133 : Int32), g148_133 x133 = some (ro_, ho_) → zq_wp sc (d + 1) 155 148 [some (.ref x125), some (.int x126), some (.int x127), none, some (.int x128), some (.long x129), none] [.int x133, .int x126, .ref v131] h130 (none, ho_) := by
                intro x133 hf
                rw [hg148_133] at hf
                obtain ⟨h134, e135, hf⟩ := zo_b_s hf
                refine zr_iast rfl e135 ?_
                refine zq_wg 1 (pc' := 265) (lv' := [some (.ref x125), some (.int x126), some (.int x127), none, some (.int x128), some (.long x129), none]) (st' := []) (h' := h134) rfl ?_
                refine zq_fg [some (.ref x125), some (.int x126), some (.int x127), none, none, some (.long x129), none] (zq_lvle_s (zq_lvle_s (zq_lvle_s (zq_lvle_s (zq_lvle_n (zq_lvle_s (zq_lvle_s zq_lvle_nil))))))) ?_
                exact kj265_35 x125 x126 x127 x129 h134 hf
              refine zr_if ((x127 - x128) ≤ (8 : Int32)) 147 143 (st' := [.int x126, .ref v131]) rfl rfl (fun b136 => ?_) (fun b136 => ?_)
              · have hf := zo_lt hf b136
                refine zq_wg 1 (pc' := 148) (lv' := [some (.ref x125), some (.int x126), some (.int x127), none, some (.int x128), some (.long x129), none]) (st' := [.int (1 : Int32), .int x126, .ref v131]) (h' := h130) rfl ?_
                exact kg148_133 _ hf
              · have hf := zo_lf hf b136
                refine zq_wg 2 (pc' := 148) (lv' := [some (.ref x125), some (.int x126), some (.int x127), none, some (.int x128), some (.long x129), none]) (st' := [.int (4 : Int32), .int x126, .ref v131]) (h' := h130) rfl ?_
                exact kg148_133 _ hf
set_option maxRecDepth 4000 in
theorem zm_cutAll_ok (sc : zX) (d : Nat) (hd : 2 ≤ d) {a0 : Nat} {h : zH} {ro_ : Unit} {ho_ : zH} (hf : zm_cutAll sc a0 h = some (ro_, ho_)) : zq_wm sc d 155 [.ref a0] h (none, ho_) := by
  unfold zm_cutAll at hf
  obtain ⟨d, rfl⟩ : ∃ d', d = d' + 1 := ⟨d - 1, by omega⟩
  have hd : 1 ≤ d := by omega
  show zq_wp sc (d + 1) 155 0 [some (.ref a0), none, none, none, none, none, none] [] h _
  refine zq_wg 2 (pc' := 2) (lv' := [some (.ref a0), none, none, none, none, none, none]) (st' := [.ref a0, .ref a0]) (h' := h) rfl ?_
  obtain ⟨v1, e2, hf⟩ := zo_b_s hf
  refine zr_gI rfl rfl (by decide) rfl e2 ?_
  obtain ⟨h3, e4, hf⟩ := zo_b_s hf
  refine zr_pI rfl rfl (by decide) rfl rfl e4 ?_
  refine zq_wg 2 (pc' := 10) (lv' := [some (.ref a0), none, none, none, none, none, none]) (st' := [.int (0 : Int32), .ref a0]) (h' := h3) rfl ?_
  obtain ⟨h5, e6, hf⟩ := zo_b_s hf
  refine zr_pI rfl rfl (by decide) rfl rfl e6 ?_
  refine zq_wg 4 (pc' := 17) (lv' := [some (.ref a0), some (.int (0 : Int32)), some (.int (0 : Int32)), none, none, none, none]) (st' := []) (h' := h5) rfl ?_
  refine zm_cutAll_l17_ok sc d hd zo_F a0 (0 : Int32) (0 : Int32) h5 _ _ _ ?_ hf
  · intro x137 x138 h139 hf
    refine zq_wg 1 (pc' := 280) (lv' := [some (.ref x137), some (.int x138), none, none, none, none, none]) (st' := [.ref x137]) (h' := h139) rfl ?_
    obtain ⟨v140, e141, hf⟩ := zo_b_s hf
    refine zr_gR rfl rfl (by decide) rfl e141 ?_
    refine zq_wg 2 (pc' := 285) (lv' := [some (.ref x137), some (.int x138), none, none, none, none, none]) (st' := [.int (0 : Int32), .int x138, .ref v140]) (h' := h139) rfl ?_
    obtain ⟨h142, e143, hf⟩ := zo_b_s hf
    refine zr_iast rfl e143 ?_
    refine zq_wg 1 (pc' := 287) (lv' := [some (.ref x137), some (.int x138), none, none, none, none, none]) (st' := [.ref x137]) (h' := h142) rfl ?_
    obtain ⟨v144, e145, hf⟩ := zo_b_s hf
    refine zr_gR rfl rfl (by decide) rfl e145 ?_
    refine zq_wg 2 (pc' := 292) (lv' := [some (.ref x137), some (.int x138), none, none, none, none, none]) (st' := [.ref x137, .int x138, .ref v144]) (h' := h142) rfl ?_
    obtain ⟨v146, e147, hf⟩ := zo_b_s hf
    refine zr_gI rfl rfl (by decide) rfl e147 ?_
    obtain ⟨h148, e149, hf⟩ := zo_b_s hf
    refine zr_iast rfl e149 ?_
    refine zq_wg 2 (pc' := 298) (lv' := [some (.ref x137), some (.int x138), none, none, none, none, none]) (st' := [.int (0 : Int32), .ref x137]) (h' := h148) rfl ?_
    obtain ⟨h150, e151, hf⟩ := zo_b_s hf
    refine zr_pI rfl rfl (by decide) rfl rfl e151 ?_
    refine zq_wg 2 (pc' := 303) (lv' := [some (.ref x137), some (.int x138), none, none, none, none, none]) (st' := [.int (0 : Int32), .ref x137]) (h' := h150) rfl ?_
    obtain ⟨h152, e153, hf⟩ := zo_b_s hf
    refine zr_pI rfl rfl (by decide) rfl rfl e153 ?_
    exact zr_rv rfl rfl hf
set_option maxRecDepth 4000 in
def zm_isWord (sc : zX) (a0 : Nat) (a1 : Int32) (h : zH) : Option (Int32 × zH) := zo_b (zo_gI h 10 a0 8) (fun v1 => if v1 = 0 then (zo_b (zo_gR h 10 a0 4) (fun v4 => zo_b (zo_gI h 10 a0 7) (fun v6 => zo_b (zq_rdI sc h v4 v6) (fun v8 => if v8 = (1 : Int32) then (zo_b (zo_gR h 10 a0 6) (fun v11 => zo_b (zo_gI h 10 a0 7) (fun v13 => zo_b (zq_rdL h v11 v13) (fun v15 => zo_b (zo_gR h 10 a0 9) (fun v17 => zo_b (zq_rdL h v17 a1) (fun v19 => if (lg_cmp v15 v19) = 0 then (some ((1 : Int32), h)) else (some ((0 : Int32), h)))))))) else (some ((0 : Int32), h)))))) else (some ((0 : Int32), h)))
set_option maxRecDepth 4000 in
theorem zm_isWord_ok (sc : zX) (d : Nat) (hd : 0 ≤ d) {a0 : Nat} {a1 : Int32} {h : zH} {ro_ : Int32} {ho_ : zH} (hf : zm_isWord sc a0 a1 h = some (ro_, ho_)) : zq_wm sc d 160 [.ref a0, .int a1] h (some (.int ro_), ho_) := by
  unfold zm_isWord at hf
  show zq_wp sc d 160 0 [some (.ref a0), some (.int a1)] [] h _
  refine zq_wg 1 (pc' := 1) (lv' := [some (.ref a0), some (.int a1)]) (st' := [.ref a0]) (h' := h) rfl ?_
  obtain ⟨v1, e2, hf⟩ := zo_b_s hf
  refine zr_gI rfl rfl (by decide) rfl e2 ?_
  refine zr_if (v1 = 0) 7 43 (st' := []) rfl rfl (fun b3 => ?_) (fun b3 => ?_)
  · have hf := zo_t hf b3
    refine zq_wg 1 (pc' := 8) (lv' := [some (.ref a0), some (.int a1)]) (st' := [.ref a0]) (h' := h) rfl ?_
    obtain ⟨v4, e5, hf⟩ := zo_b_s hf
    refine zr_gR rfl rfl (by decide) rfl e5 ?_
    refine zq_wg 1 (pc' := 12) (lv' := [some (.ref a0), some (.int a1)]) (st' := [.ref a0, .ref v4]) (h' := h) rfl ?_
    obtain ⟨v6, e7, hf⟩ := zo_b_s hf
    refine zr_gI rfl rfl (by decide) rfl e7 ?_
    obtain ⟨v8, e9, hf⟩ := zo_b_s hf
    refine zr_iald rfl e9 ?_
    refine zq_wg 1 (pc' := 17) (lv' := [some (.ref a0), some (.int a1)]) (st' := [.int (1 : Int32), .int v8]) (h' := h) rfl ?_
    refine zr_if (v8 = (1 : Int32)) 20 43 (st' := []) rfl rfl (fun b10 => ?_) (fun b10 => ?_)
    · have hf := zo_t hf b10
      refine zq_wg 1 (pc' := 21) (lv' := [some (.ref a0), some (.int a1)]) (st' := [.ref a0]) (h' := h) rfl ?_
      obtain ⟨v11, e12, hf⟩ := zo_b_s hf
      refine zr_gR rfl rfl (by decide) rfl e12 ?_
      refine zq_wg 1 (pc' := 25) (lv' := [some (.ref a0), some (.int a1)]) (st' := [.ref a0, .ref v11]) (h' := h) rfl ?_
      obtain ⟨v13, e14, hf⟩ := zo_b_s hf
      refine zr_gI rfl rfl (by decide) rfl e14 ?_
      obtain ⟨v15, e16, hf⟩ := zo_b_s hf
      refine zr_lald rfl e16 ?_
      refine zq_wg 1 (pc' := 30) (lv' := [some (.ref a0), some (.int a1)]) (st' := [.ref a0, .long v15]) (h' := h) rfl ?_
      obtain ⟨v17, e18, hf⟩ := zo_b_s hf
      refine zr_gR rfl rfl (by decide) rfl e18 ?_
      refine zq_wg 1 (pc' := 34) (lv' := [some (.ref a0), some (.int a1)]) (st' := [.int a1, .ref v17, .long v15]) (h' := h) rfl ?_
      obtain ⟨v19, e20, hf⟩ := zo_b_s hf
      refine zr_lald rfl e20 ?_
      refine zq_wg 1 (pc' := 36) (lv' := [some (.ref a0), some (.int a1)]) (st' := [.int (lg_cmp v15 v19)]) (h' := h) rfl ?_
      refine zr_if ((lg_cmp v15 v19) = 0) 39 43 (st' := []) rfl rfl (fun b21 => ?_) (fun b21 => ?_)
      · have hf := zo_t hf b21
        refine zq_wg 2 (pc' := 44) (lv' := [some (.ref a0), some (.int a1)]) (st' := [.int (1 : Int32)]) (h' := h) rfl ?_
        exact zr_ri rfl rfl rfl hf
      · have hf := zo_f hf b21
        refine zq_wg 1 (pc' := 44) (lv' := [some (.ref a0), some (.int a1)]) (st' := [.int (0 : Int32)]) (h' := h) rfl ?_
        exact zr_ri rfl rfl rfl hf
    · have hf := zo_f hf b10
      refine zq_wg 1 (pc' := 44) (lv' := [some (.ref a0), some (.int a1)]) (st' := [.int (0 : Int32)]) (h' := h) rfl ?_
      exact zr_ri rfl rfl rfl hf
  · have hf := zo_f hf b3
    refine zq_wg 1 (pc' := 44) (lv' := [some (.ref a0), some (.int a1)]) (st' := [.int (0 : Int32)]) (h' := h) rfl ?_
    exact zr_ri rfl rfl rfl hf
set_option maxRecDepth 4000 in
def zm_wrong (sc : zX) (a0 : Nat) (a1 : Int32) (h : zH) : Option (Unit × zH) := zo_b (zo_gI h 10 a0 8) (fun v1 => if v1 = 0 then (zo_b (zo_gR h 10 a0 5) (fun v4 => zo_b (zo_gI h 10 a0 7) (fun v6 => zo_b (zq_rdI sc h v4 v6) (fun v8 => zo_b (zo_pI h 10 a0 8 (a1 + ((16 : Int32) * v8))) (fun h10 => some ((), h10)))))) else (some ((), h)))
set_option maxRecDepth 4000 in
theorem zm_wrong_ok (sc : zX) (d : Nat) (hd : 0 ≤ d) {a0 : Nat} {a1 : Int32} {h : zH} {ro_ : Unit} {ho_ : zH} (hf : zm_wrong sc a0 a1 h = some (ro_, ho_)) : zq_wm sc d 162 [.ref a0, .int a1] h (none, ho_) := by
  unfold zm_wrong at hf
  show zq_wp sc d 162 0 [some (.ref a0), some (.int a1)] [] h _
  refine zq_wg 1 (pc' := 1) (lv' := [some (.ref a0), some (.int a1)]) (st' := [.ref a0]) (h' := h) rfl ?_
  obtain ⟨v1, e2, hf⟩ := zo_b_s hf
  refine zr_gI rfl rfl (by decide) rfl e2 ?_
  refine zr_if (v1 = 0) 7 25 (st' := []) rfl rfl (fun b3 => ?_) (fun b3 => ?_)
  · have hf := zo_t hf b3
    refine zq_wg 4 (pc' := 12) (lv' := [some (.ref a0), some (.int a1)]) (st' := [.ref a0, .int (16 : Int32), .int a1, .ref a0]) (h' := h) rfl ?_
    obtain ⟨v4, e5, hf⟩ := zo_b_s hf
    refine zr_gR rfl rfl (by decide) rfl e5 ?_
    refine zq_wg 1 (pc' := 16) (lv' := [some (.ref a0), some (.int a1)]) (st' := [.ref a0, .ref v4, .int (16 : Int32), .int a1, .ref a0]) (h' := h) rfl ?_
    obtain ⟨v6, e7, hf⟩ := zo_b_s hf
    refine zr_gI rfl rfl (by decide) rfl e7 ?_
    obtain ⟨v8, e9, hf⟩ := zo_b_s hf
    refine zr_iald rfl e9 ?_
    refine zq_wg 2 (pc' := 22) (lv' := [some (.ref a0), some (.int a1)]) (st' := [.int (a1 + ((16 : Int32) * v8)), .ref a0]) (h' := h) rfl ?_
    obtain ⟨h10, e11, hf⟩ := zo_b_s hf
    refine zr_pI rfl rfl (by decide) rfl rfl e11 ?_
    exact zr_rv rfl rfl hf
  · have hf := zo_f hf b3
    exact zr_rv rfl rfl hf
set_option maxRecDepth 4000 in
def zm_wordHere_l5 (sc : zX) : Nat → Nat → Int32 → Int32 → Int32 → Int32 → zH → Option (Int32 × zH)
  | 0, _, _, _, _, _, _ => none
  | n + 1, y1, y2, y3, y4, y5, h6 => if y3 ≤ y5 then (some (y4, h6)) else (zo_v h6 y1 10 (zm_isWord sc y1 (y2 + y5) h6) (fun v9 h8 => zo_l (if v9 = 0 then y4 else y5) (fun (x12 : Int32) => zm_wordHere_l5 sc n y1 y2 y3 x12 (y5 + (1 : Int32)) h8 )))
set_option maxRecDepth 4000 in
def zm_wordHere (sc : zX) (a0 : Nat) (a1 : Int32) (a2 : Int32) (h : zH) : Option (Int32 × zH) := zm_wordHere_l5 sc zo_F a0 a1 a2 (-1 : Int32) (0 : Int32) h 
set_option maxRecDepth 4000 in
theorem zm_wordHere_l5_ok (sc : zX) (d : Nat) (hd : 0 ≤ d) : ∀ (n : Nat) (y1 : Nat) (y2 : Int32) (y3 : Int32) (y4 : Int32) (y5 : Int32) (h6 : zH) (ro_ : Int32) (ho_ : zH),  zm_wordHere_l5 sc n y1 y2 y3 y4 y5 h6  = some (ro_, ho_) → zq_wp sc (d + 1) 165 5 [some (.ref y1), some (.int y2), some (.int y3), some (.int y4), some (.int y5)] [] h6 (some (.int ro_), ho_) := by
  intro n
  induction n with
  | zero => intro y1 y2 y3 y4 y5 h6 ro_ ho_ hf; cases hf
  | succ n ih =>
    intro y1 y2 y3 y4 y5 h6 ro_ ho_ hf
    refine zq_wg 2 (pc' := 8) (lv' := [some (.ref y1), some (.int y2), some (.int y3), some (.int y4), some (.int y5)]) (st' := [.int y3, .int y5]) (h' := h6) rfl ?_
    refine zr_if (y3 ≤ y5) 35 11 (st' := []) rfl rfl (fun b7 => ?_) (fun b7 => ?_)
    · have hf := zo_t hf b7
      refine zq_wg 1 (pc' := 36) (lv' := [some (.ref y1), some (.int y2), some (.int y3), some (.int y4), some (.int y5)]) (st' := [.int y4]) (h' := h6) rfl ?_
      exact zr_ri rfl rfl rfl hf
    · have hf := zo_f hf b7
      refine zq_wg 4 (pc' := 16) (lv' := [some (.ref y1), some (.int y2), some (.int y3), some (.int y4), some (.int y5)]) (st' := [.int (y2 + y5), .ref y1]) (h' := h6) rfl ?_
      obtain ⟨e11, v9, h8, e10, hf⟩ := zo_v_s hf
      refine zr_cv zq_m160 [.int (y2 + y5)] [] rfl rfl rfl rfl rfl (Nat.le_of_ble_eq_true rfl) (Nat.le_of_ble_eq_true rfl) e11 (zm_isWord_ok sc d (by omega) e10) ?_
      refine zq_wg 0 (pc' := 19) (lv' := [some (.ref y1), some (.int y2), some (.int y3), some (.int y4), some (.int y5)]) (st' := [.int v9]) (h' := h8) rfl ?_
      obtain ⟨g28_12, hg28_12, hf⟩ := zo_lx hf
      have kg28_12 : ∀ (x12 : Int32), g28_12 x12 = some (ro_, ho_) → zq_wp sc (d + 1) 165 28 [some (.ref y1), some (.int y2), some (.int y3), some (.int y4), some (.int y5)] [.int x12] h8 (some (.int ro_), ho_) := by
        intro x12 hf
        rw [hg28_12] at hf
        refine zq_wg 3 (pc' := 5) (lv' := [some (.ref y1), some (.int y2), some (.int y3), some (.int x12), some (.int (y5 + (1 : Int32)))]) (st' := []) (h' := h8) rfl ?_
        exact ih y1 y2 y3 x12 (y5 + (1 : Int32)) h8 _ _ hf
      refine zr_if (v9 = 0) 27 22 (st' := []) rfl rfl (fun b13 => ?_) (fun b13 => ?_)
      · have hf := zo_lt hf b13
        refine zq_wg 1 (pc' := 28) (lv' := [some (.ref y1), some (.int y2), some (.int y3), some (.int y4), some (.int y5)]) (st' := [.int y4]) (h' := h8) rfl ?_
        exact kg28_12 _ hf
      · have hf := zo_lf hf b13
        refine zq_wg 2 (pc' := 28) (lv' := [some (.ref y1), some (.int y2), some (.int y3), some (.int y4), some (.int y5)]) (st' := [.int y5]) (h' := h8) rfl ?_
        exact kg28_12 _ hf
set_option maxRecDepth 4000 in
theorem zm_wordHere_ok (sc : zX) (d : Nat) (hd : 1 ≤ d) {a0 : Nat} {a1 : Int32} {a2 : Int32} {h : zH} {ro_ : Int32} {ho_ : zH} (hf : zm_wordHere sc a0 a1 a2 h = some (ro_, ho_)) : zq_wm sc d 165 [.ref a0, .int a1, .int a2] h (some (.int ro_), ho_) := by
  unfold zm_wordHere at hf
  obtain ⟨d, rfl⟩ : ∃ d', d = d' + 1 := ⟨d - 1, by omega⟩
  have hd : 0 ≤ d := by omega
  show zq_wp sc (d + 1) 165 0 [some (.ref a0), some (.int a1), some (.int a2), none, none] [] h _
  refine zq_wg 4 (pc' := 5) (lv' := [some (.ref a0), some (.int a1), some (.int a2), some (.int (-1 : Int32)), some (.int (0 : Int32))]) (st' := []) (h' := h) rfl ?_
  refine zm_wordHere_l5_ok sc d hd zo_F a0 a1 a2 (-1 : Int32) (0 : Int32) h _ _ hf
set_option maxRecDepth 4000 in
def zm_isName (sc : zX) (a0 : Nat) (h : zH) : Option (Int32 × zH) := zo_b (zo_gI h 10 a0 8) (fun v1 => if v1 = 0 then (zo_b (zo_gR h 10 a0 4) (fun v4 => zo_b (zo_gI h 10 a0 7) (fun v6 => zo_b (zq_rdI sc h v4 v6) (fun v8 => if v8 = (1 : Int32) then (zo_v h a0 10 (zm_wordHere sc a0 (0 : Int32) (29 : Int32) h) (fun v12 h11 => if 0 ≤ v12 then (some ((0 : Int32), h11)) else (some ((1 : Int32), h11)))) else (some ((0 : Int32), h)))))) else (some ((0 : Int32), h)))
set_option maxRecDepth 4000 in
theorem zm_isName_ok (sc : zX) (d : Nat) (hd : 2 ≤ d) {a0 : Nat} {h : zH} {ro_ : Int32} {ho_ : zH} (hf : zm_isName sc a0 h = some (ro_, ho_)) : zq_wm sc d 164 [.ref a0] h (some (.int ro_), ho_) := by
  unfold zm_isName at hf
  obtain ⟨d, rfl⟩ : ∃ d', d = d' + 1 := ⟨d - 1, by omega⟩
  have hd : 1 ≤ d := by omega
  show zq_wp sc (d + 1) 164 0 [some (.ref a0)] [] h _
  refine zq_wg 1 (pc' := 1) (lv' := [some (.ref a0)]) (st' := [.ref a0]) (h' := h) rfl ?_
  obtain ⟨v1, e2, hf⟩ := zo_b_s hf
  refine zr_gI rfl rfl (by decide) rfl e2 ?_
  refine zr_if (v1 = 0) 7 34 (st' := []) rfl rfl (fun b3 => ?_) (fun b3 => ?_)
  · have hf := zo_t hf b3
    refine zq_wg 1 (pc' := 8) (lv' := [some (.ref a0)]) (st' := [.ref a0]) (h' := h) rfl ?_
    obtain ⟨v4, e5, hf⟩ := zo_b_s hf
    refine zr_gR rfl rfl (by decide) rfl e5 ?_
    refine zq_wg 1 (pc' := 12) (lv' := [some (.ref a0)]) (st' := [.ref a0, .ref v4]) (h' := h) rfl ?_
    obtain ⟨v6, e7, hf⟩ := zo_b_s hf
    refine zr_gI rfl rfl (by decide) rfl e7 ?_
    obtain ⟨v8, e9, hf⟩ := zo_b_s hf
    refine zr_iald rfl e9 ?_
    refine zq_wg 1 (pc' := 17) (lv' := [some (.ref a0)]) (st' := [.int (1 : Int32), .int v8]) (h' := h) rfl ?_
    refine zr_if (v8 = (1 : Int32)) 20 34 (st' := []) rfl rfl (fun b10 => ?_) (fun b10 => ?_)
    · have hf := zo_t hf b10
      refine zq_wg 3 (pc' := 24) (lv' := [some (.ref a0)]) (st' := [.int (29 : Int32), .int (0 : Int32), .ref a0]) (h' := h) rfl ?_
      obtain ⟨e14, v12, h11, e13, hf⟩ := zo_v_s hf
      refine zr_cv zq_m165 [.int (0 : Int32), .int (29 : Int32)] [] rfl rfl rfl rfl rfl (Nat.le_of_ble_eq_true rfl) (Nat.le_of_ble_eq_true rfl) e14 (zm_wordHere_ok sc d (by omega) e13) ?_
      refine zq_wg 0 (pc' := 27) (lv' := [some (.ref a0)]) (st' := [.int v12]) (h' := h11) rfl ?_
      refine zr_if (0 ≤ v12) 34 30 (st' := []) rfl rfl (fun b15 => ?_) (fun b15 => ?_)
      · have hf := zo_t hf b15
        refine zq_wg 1 (pc' := 35) (lv' := [some (.ref a0)]) (st' := [.int (0 : Int32)]) (h' := h11) rfl ?_
        exact zr_ri rfl rfl rfl hf
      · have hf := zo_f hf b15
        refine zq_wg 2 (pc' := 35) (lv' := [some (.ref a0)]) (st' := [.int (1 : Int32)]) (h' := h11) rfl ?_
        exact zr_ri rfl rfl rfl hf
    · have hf := zo_f hf b10
      refine zq_wg 1 (pc' := 35) (lv' := [some (.ref a0)]) (st' := [.int (0 : Int32)]) (h' := h) rfl ?_
      exact zr_ri rfl rfl rfl hf
  · have hf := zo_f hf b3
    refine zq_wg 1 (pc' := 35) (lv' := [some (.ref a0)]) (st' := [.int (0 : Int32)]) (h' := h) rfl ?_
    exact zr_ri rfl rfl rfl hf
set_option maxRecDepth 4000 in
def zm_find_l2 (sc : zX) : Nat → Nat → Int32 → Int32 → zH → (Nat → Int32 → Int32 → zH → Option (Int32 × zH)) → Option (Int32 × zH)
  | 0, _, _, _, _, _ => none
  | n + 1, y1, y2, y3, h4, k53 => zo_l (fun (x5 : Nat) (x6 : Int32) (x7 : Int32) (x8 : Int32) (x9 : Int32) (h10 : zH) => if x9 ≤ x8 then (some ((-1 : Int32), h10)) else (zo_l (fun (x12 : Nat) (x13 : Int32) (x14 : Int32) (x15 : Int64) (h16 : zH) => zo_b (zo_gR h16 10 x12 6) (fun v17 => zo_b (zo_gI h16 10 x12 7) (fun v19 => zo_b (zq_rdL h16 v17 v19) (fun v21 => if (lg_cmp x15 v21) = 0 then (k53 x12 x13 x14 h16) else (zm_find_l2 sc n x12 x13 (x14 + (1 : Int32)) h16 k53))))) (fun j40_16 => if x6 = 0 then (zo_b (zo_gR h10 10 x5 14) (fun v25 => zo_b (zq_rdL h10 v25 x7) (fun v27 => j40_16 x5 x6 x7 v27 h10))) else (zo_b (zo_gR h10 10 x5 15) (fun v29 => zo_b (zq_rdL h10 v29 x7) (fun v31 => j40_16 x5 x6 x7 v31 h10)))))) (fun j18_10 => if y2 = 0 then (zo_b (zo_gI h4 10 y1 18) (fun v34 => j18_10 y1 y2 y3 y3 v34 h4)) else (zo_b (zo_gI h4 10 y1 19) (fun v36 => j18_10 y1 y2 y3 y3 v36 h4)))
set_option maxRecDepth 4000 in
def zm_find (sc : zX) (a0 : Nat) (a1 : Int32) (h : zH) : Option (Int32 × zH) := zm_find_l2 sc zo_F a0 a1 (0 : Int32) h (fun (x38 : Nat) (x39 : Int32) (x40 : Int32) (h41 : zH) => if x39 = 0 then (zo_b (zo_gR h41 10 x38 16) (fun v43 => zo_b (zq_rdI sc h41 v43 x40) (fun v45 => some (v45, h41)))) else (zo_b (zo_gR h41 10 x38 17) (fun v47 => zo_b (zq_rdI sc h41 v47 x40) (fun v49 => some (v49, h41)))))
set_option maxRecDepth 4000 in
theorem zm_find_l2_ok (sc : zX) (d : Nat) : ∀ (n : Nat) (y1 : Nat) (y2 : Int32) (y3 : Int32) (h4 : zH) (k53 : Nat → Int32 → Int32 → zH → Option (Int32 × zH)) (ro_ : Int32) (ho_ : zH), (∀ (z0 : Nat) (z1 : Int32) (z2 : Int32) (hz : zH), k53 z0 z1 z2 hz = some (ro_, ho_) → zq_wp sc d 166 53 [some (.ref z0), some (.int z1), some (.int z2)] [] hz (some (.int ro_), ho_)) → zm_find_l2 sc n y1 y2 y3 h4 k53 = some (ro_, ho_) → zq_wp sc d 166 2 [some (.ref y1), some (.int y2), some (.int y3)] [] h4 (some (.int ro_), ho_) := by
  intro n
  induction n with
  | zero => intro y1 y2 y3 h4 k53 ro_ ho_ hk53 hf; cases hf
  | succ n ih =>
    intro y1 y2 y3 h4 k53 ro_ ho_ hk53 hf
    refine zq_wg 2 (pc' := 4) (lv' := [some (.ref y1), some (.int y2), some (.int y3)]) (st' := [.int y2, .int y3]) (h' := h4) rfl ?_
    obtain ⟨j18_10, hjj18_10, hf⟩ := zo_lj hf
    have kj18_10 : ∀ (x5 : Nat) (x6 : Int32) (x7 : Int32) (x8 : Int32) (x9 : Int32) (h10 : zH), j18_10 x5 x6 x7 x8 x9 h10 = some (ro_, ho_) → zq_wp sc d 166 18 [some (.ref x5), some (.int x6), some (.int x7)] [.int x9, .int x8] h10 (some (.int ro_), ho_) := by
      intro x5 x6 x7 x8 x9 h10 hf
      rw [hjj18_10] at hf
      refine zr_if (x9 ≤ x8) 79 21 (st' := []) rfl rfl (fun b11 => ?_) (fun b11 => ?_)
      · have hf := zo_t hf b11
        refine zq_wg 1 (pc' := 80) (lv' := [some (.ref x5), some (.int x6), some (.int x7)]) (st' := [.int (-1 : Int32)]) (h' := h10) rfl ?_
        exact zr_ri rfl rfl rfl hf
      · have hf := zo_f hf b11
        refine zq_wg 1 (pc' := 22) (lv' := [some (.ref x5), some (.int x6), some (.int x7)]) (st' := [.int x6]) (h' := h10) rfl ?_
        obtain ⟨j40_16, hjj40_16, hf⟩ := zo_lj hf
        have kj40_16 : ∀ (x12 : Nat) (x13 : Int32) (x14 : Int32) (x15 : Int64) (h16 : zH), j40_16 x12 x13 x14 x15 h16 = some (ro_, ho_) → zq_wp sc d 166 40 [some (.ref x12), some (.int x13), some (.int x14)] [.long x15] h16 (some (.int ro_), ho_) := by
          intro x12 x13 x14 x15 h16 hf
          rw [hjj40_16] at hf
          refine zq_wg 1 (pc' := 41) (lv' := [some (.ref x12), some (.int x13), some (.int x14)]) (st' := [.ref x12, .long x15]) (h' := h16) rfl ?_
          obtain ⟨v17, e18, hf⟩ := zo_b_s hf
          refine zr_gR rfl rfl (by decide) rfl e18 ?_
          refine zq_wg 1 (pc' := 45) (lv' := [some (.ref x12), some (.int x13), some (.int x14)]) (st' := [.ref x12, .ref v17, .long x15]) (h' := h16) rfl ?_
          obtain ⟨v19, e20, hf⟩ := zo_b_s hf
          refine zr_gI rfl rfl (by decide) rfl e20 ?_
          obtain ⟨v21, e22, hf⟩ := zo_b_s hf
          refine zr_lald rfl e22 ?_
          refine zq_wg 1 (pc' := 50) (lv' := [some (.ref x12), some (.int x13), some (.int x14)]) (st' := [.int (lg_cmp x15 v21)]) (h' := h16) rfl ?_
          refine zr_if ((lg_cmp x15 v21) = 0) 53 73 (st' := []) rfl rfl (fun b23 => ?_) (fun b23 => ?_)
          · have hf := zo_t hf b23
            exact hk53 x12 x13 x14 h16 hf
          · have hf := zo_f hf b23
            refine zq_wg 2 (pc' := 2) (lv' := [some (.ref x12), some (.int x13), some (.int (x14 + (1 : Int32)))]) (st' := []) (h' := h16) rfl ?_
            exact ih x12 x13 (x14 + (1 : Int32)) h16 _ _ _ hk53 hf
        refine zr_if (x6 = 0) 34 25 (st' := []) rfl rfl (fun b24 => ?_) (fun b24 => ?_)
        · have hf := zo_t hf b24
          refine zq_wg 1 (pc' := 35) (lv' := [some (.ref x5), some (.int x6), some (.int x7)]) (st' := [.ref x5]) (h' := h10) rfl ?_
          obtain ⟨v25, e26, hf⟩ := zo_b_s hf
          refine zr_gR rfl rfl (by decide) rfl e26 ?_
          refine zq_wg 1 (pc' := 39) (lv' := [some (.ref x5), some (.int x6), some (.int x7)]) (st' := [.int x7, .ref v25]) (h' := h10) rfl ?_
          obtain ⟨v27, e28, hf⟩ := zo_b_s hf
          refine zr_lald rfl e28 ?_
          exact kj40_16 x5 x6 x7 v27 h10 hf
        · have hf := zo_f hf b24
          refine zq_wg 1 (pc' := 26) (lv' := [some (.ref x5), some (.int x6), some (.int x7)]) (st' := [.ref x5]) (h' := h10) rfl ?_
          obtain ⟨v29, e30, hf⟩ := zo_b_s hf
          refine zr_gR rfl rfl (by decide) rfl e30 ?_
          refine zq_wg 1 (pc' := 30) (lv' := [some (.ref x5), some (.int x6), some (.int x7)]) (st' := [.int x7, .ref v29]) (h' := h10) rfl ?_
          obtain ⟨v31, e32, hf⟩ := zo_b_s hf
          refine zr_lald rfl e32 ?_
          refine zq_wg 1 (pc' := 40) (lv' := [some (.ref x5), some (.int x6), some (.int x7)]) (st' := [.long v31]) (h' := h10) rfl ?_
          exact kj40_16 x5 x6 x7 v31 h10 hf
    refine zr_if (y2 = 0) 14 7 (st' := [.int y3]) rfl rfl (fun b33 => ?_) (fun b33 => ?_)
    · have hf := zo_t hf b33
      refine zq_wg 1 (pc' := 15) (lv' := [some (.ref y1), some (.int y2), some (.int y3)]) (st' := [.ref y1, .int y3]) (h' := h4) rfl ?_
      obtain ⟨v34, e35, hf⟩ := zo_b_s hf
      refine zr_gI rfl rfl (by decide) rfl e35 ?_
      exact kj18_10 y1 y2 y3 y3 v34 h4 hf
    · have hf := zo_f hf b33
      refine zq_wg 1 (pc' := 8) (lv' := [some (.ref y1), some (.int y2), some (.int y3)]) (st' := [.ref y1, .int y3]) (h' := h4) rfl ?_
      obtain ⟨v36, e37, hf⟩ := zo_b_s hf
      refine zr_gI rfl rfl (by decide) rfl e37 ?_
      refine zq_wg 1 (pc' := 18) (lv' := [some (.ref y1), some (.int y2), some (.int y3)]) (st' := [.int v36, .int y3]) (h' := h4) rfl ?_
      exact kj18_10 y1 y2 y3 y3 v36 h4 hf
set_option maxRecDepth 4000 in
theorem zm_find_ok (sc : zX) (d : Nat) (hd : 0 ≤ d) {a0 : Nat} {a1 : Int32} {h : zH} {ro_ : Int32} {ho_ : zH} (hf : zm_find sc a0 a1 h = some (ro_, ho_)) : zq_wm sc d 166 [.ref a0, .int a1] h (some (.int ro_), ho_) := by
  unfold zm_find at hf
  show zq_wp sc d 166 0 [some (.ref a0), some (.int a1), none] [] h _
  refine zq_wg 2 (pc' := 2) (lv' := [some (.ref a0), some (.int a1), some (.int (0 : Int32))]) (st' := []) (h' := h) rfl ?_
  refine zm_find_l2_ok sc d zo_F a0 a1 (0 : Int32) h _ _ _ ?_ hf
  · intro x38 x39 x40 h41 hf
    refine zq_wg 1 (pc' := 54) (lv' := [some (.ref x38), some (.int x39), some (.int x40)]) (st' := [.int x39]) (h' := h41) rfl ?_
    refine zr_if (x39 = 0) 66 57 (st' := []) rfl rfl (fun b42 => ?_) (fun b42 => ?_)
    · have hf := zo_t hf b42
      refine zq_wg 1 (pc' := 67) (lv' := [some (.ref x38), some (.int x39), some (.int x40)]) (st' := [.ref x38]) (h' := h41) rfl ?_
      obtain ⟨v43, e44, hf⟩ := zo_b_s hf
      refine zr_gR rfl rfl (by decide) rfl e44 ?_
      refine zq_wg 1 (pc' := 71) (lv' := [some (.ref x38), some (.int x39), some (.int x40)]) (st' := [.int x40, .ref v43]) (h' := h41) rfl ?_
      obtain ⟨v45, e46, hf⟩ := zo_b_s hf
      refine zr_iald rfl e46 ?_
      exact zr_ri rfl rfl rfl hf
    · have hf := zo_f hf b42
      refine zq_wg 1 (pc' := 58) (lv' := [some (.ref x38), some (.int x39), some (.int x40)]) (st' := [.ref x38]) (h' := h41) rfl ?_
      obtain ⟨v47, e48, hf⟩ := zo_b_s hf
      refine zr_gR rfl rfl (by decide) rfl e48 ?_
      refine zq_wg 1 (pc' := 62) (lv' := [some (.ref x38), some (.int x39), some (.int x40)]) (st' := [.int x40, .ref v47]) (h' := h41) rfl ?_
      obtain ⟨v49, e50, hf⟩ := zo_b_s hf
      refine zr_iald rfl e50 ?_
      refine zq_wg 1 (pc' := 72) (lv' := [some (.ref x38), some (.int x39), some (.int x40)]) (st' := [.int v49]) (h' := h41) rfl ?_
      exact zr_ri rfl rfl rfl hf
set_option maxRecDepth 4000 in
def zm_readName (sc : zX) (a0 : Nat) (a1 : Int32) (h : zH) : Option (Unit × zH) := zo_b (zo_gI h 10 a0 7) (fun v1 => zo_b (zo_pI h 10 a0 7 (v1 + (1 : Int32))) (fun h3 => zo_v h3 a0 10 (zm_isName sc a0 h3) (fun v6 h5 => zo_l (fun (x9 : Nat) (x10 : Int32) (h11 : zH) => zo_b (zo_gI h11 10 x9 8) (fun v12 => if v12 = 0 then (zo_b (zo_gR h11 10 x9 15) (fun v15 => zo_b (zo_gI h11 10 x9 19) (fun v17 => zo_b (zo_gR h11 10 x9 6) (fun v19 => zo_b (zo_gI h11 10 x9 7) (fun v21 => zo_b (zq_rdL h11 v19 v21) (fun v23 => zo_b (zq_wrL h11 v15 v17 v23) (fun h25 => zo_b (zo_gR h25 10 x9 17) (fun v27 => zo_b (zo_gI h25 10 x9 19) (fun v29 => zo_b (zq_wrX 1 h25 v27 v29 x10) (fun h31 => zo_b (zo_gI h31 10 x9 19) (fun v33 => zo_b (zo_pI h31 10 x9 19 (v33 + (1 : Int32))) (fun h35 => zo_b (zo_gI h35 10 x9 7) (fun v37 => zo_b (zo_pI h35 10 x9 7 (v37 + (1 : Int32))) (fun h39 => some ((), h39))))))))))))))) else (some ((), h11)))) (fun j38_11 => if v6 = 0 then (zo_v h5 a0 10 (zm_wrong sc a0 (1 : Int32) h5) (fun w43 h42 => j38_11 a0 a1 h42)) else (zo_v h5 a0 10 (zm_find sc a0 (1 : Int32) h5) (fun v47 h46 => if v47 < 0 then (j38_11 a0 a1 h46) else (zo_v h46 a0 10 (zm_wrong sc a0 (3 : Int32) h46) (fun w52 h51 => j38_11 a0 a1 h51))))))))
set_option maxRecDepth 4000 in
theorem zm_readName_ok (sc : zX) (d : Nat) (hd : 3 ≤ d) {a0 : Nat} {a1 : Int32} {h : zH} {ro_ : Unit} {ho_ : zH} (hf : zm_readName sc a0 a1 h = some (ro_, ho_)) : zq_wm sc d 163 [.ref a0, .int a1] h (none, ho_) := by
  unfold zm_readName at hf
  obtain ⟨d, rfl⟩ : ∃ d', d = d' + 1 := ⟨d - 1, by omega⟩
  have hd : 2 ≤ d := by omega
  show zq_wp sc (d + 1) 163 0 [some (.ref a0), some (.int a1)] [] h _
  refine zq_wg 2 (pc' := 2) (lv' := [some (.ref a0), some (.int a1)]) (st' := [.ref a0, .ref a0]) (h' := h) rfl ?_
  obtain ⟨v1, e2, hf⟩ := zo_b_s hf
  refine zr_gI rfl rfl (by decide) rfl e2 ?_
  refine zq_wg 2 (pc' := 7) (lv' := [some (.ref a0), some (.int a1)]) (st' := [.int (v1 + (1 : Int32)), .ref a0]) (h' := h) rfl ?_
  obtain ⟨h3, e4, hf⟩ := zo_b_s hf
  refine zr_pI rfl rfl (by decide) rfl rfl e4 ?_
  refine zq_wg 1 (pc' := 11) (lv' := [some (.ref a0), some (.int a1)]) (st' := [.ref a0]) (h' := h3) rfl ?_
  obtain ⟨e8, v6, h5, e7, hf⟩ := zo_v_s hf
  refine zr_cv zq_m164 [] [] rfl rfl rfl rfl rfl (Nat.le_of_ble_eq_true rfl) (Nat.le_of_ble_eq_true rfl) e8 (zm_isName_ok sc d (by omega) e7) ?_
  refine zq_wg 0 (pc' := 14) (lv' := [some (.ref a0), some (.int a1)]) (st' := [.int v6]) (h' := h5) rfl ?_
  obtain ⟨j38_11, hjj38_11, hf⟩ := zo_lj hf
  have kj38_11 : ∀ (x9 : Nat) (x10 : Int32) (h11 : zH), j38_11 x9 x10 h11 = some (ro_, ho_) → zq_wp sc (d + 1) 163 38 [some (.ref x9), some (.int x10)] [] h11 (none, ho_) := by
    intro x9 x10 h11 hf
    rw [hjj38_11] at hf
    refine zq_wg 1 (pc' := 39) (lv' := [some (.ref x9), some (.int x10)]) (st' := [.ref x9]) (h' := h11) rfl ?_
    obtain ⟨v12, e13, hf⟩ := zo_b_s hf
    refine zr_gI rfl rfl (by decide) rfl e13 ?_
    refine zr_if (v12 = 0) 45 93 (st' := []) rfl rfl (fun b14 => ?_) (fun b14 => ?_)
    · have hf := zo_t hf b14
      refine zq_wg 1 (pc' := 46) (lv' := [some (.ref x9), some (.int x10)]) (st' := [.ref x9]) (h' := h11) rfl ?_
      obtain ⟨v15, e16, hf⟩ := zo_b_s hf
      refine zr_gR rfl rfl (by decide) rfl e16 ?_
      refine zq_wg 1 (pc' := 50) (lv' := [some (.ref x9), some (.int x10)]) (st' := [.ref x9, .ref v15]) (h' := h11) rfl ?_
      obtain ⟨v17, e18, hf⟩ := zo_b_s hf
      refine zr_gI rfl rfl (by decide) rfl e18 ?_
      refine zq_wg 1 (pc' := 54) (lv' := [some (.ref x9), some (.int x10)]) (st' := [.ref x9, .int v17, .ref v15]) (h' := h11) rfl ?_
      obtain ⟨v19, e20, hf⟩ := zo_b_s hf
      refine zr_gR rfl rfl (by decide) rfl e20 ?_
      refine zq_wg 1 (pc' := 58) (lv' := [some (.ref x9), some (.int x10)]) (st' := [.ref x9, .ref v19, .int v17, .ref v15]) (h' := h11) rfl ?_
      obtain ⟨v21, e22, hf⟩ := zo_b_s hf
      refine zr_gI rfl rfl (by decide) rfl e22 ?_
      obtain ⟨v23, e24, hf⟩ := zo_b_s hf
      refine zr_lald rfl e24 ?_
      obtain ⟨h25, e26, hf⟩ := zo_b_s hf
      refine zr_last rfl e26 ?_
      refine zq_wg 1 (pc' := 64) (lv' := [some (.ref x9), some (.int x10)]) (st' := [.ref x9]) (h' := h25) rfl ?_
      obtain ⟨v27, e28, hf⟩ := zo_b_s hf
      refine zr_gR rfl rfl (by decide) rfl e28 ?_
      refine zq_wg 1 (pc' := 68) (lv' := [some (.ref x9), some (.int x10)]) (st' := [.ref x9, .ref v27]) (h' := h25) rfl ?_
      obtain ⟨v29, e30, hf⟩ := zo_b_s hf
      refine zr_gI rfl rfl (by decide) rfl e30 ?_
      refine zq_wg 1 (pc' := 72) (lv' := [some (.ref x9), some (.int x10)]) (st' := [.int x10, .int v29, .ref v27]) (h' := h25) rfl ?_
      obtain ⟨h31, e32, hf⟩ := zo_b_s hf
      refine zr_iast rfl e32 ?_
      refine zq_wg 2 (pc' := 75) (lv' := [some (.ref x9), some (.int x10)]) (st' := [.ref x9, .ref x9]) (h' := h31) rfl ?_
      obtain ⟨v33, e34, hf⟩ := zo_b_s hf
      refine zr_gI rfl rfl (by decide) rfl e34 ?_
      refine zq_wg 2 (pc' := 80) (lv' := [some (.ref x9), some (.int x10)]) (st' := [.int (v33 + (1 : Int32)), .ref x9]) (h' := h31) rfl ?_
      obtain ⟨h35, e36, hf⟩ := zo_b_s hf
      refine zr_pI rfl rfl (by decide) rfl rfl e36 ?_
      refine zq_wg 2 (pc' := 85) (lv' := [some (.ref x9), some (.int x10)]) (st' := [.ref x9, .ref x9]) (h' := h35) rfl ?_
      obtain ⟨v37, e38, hf⟩ := zo_b_s hf
      refine zr_gI rfl rfl (by decide) rfl e38 ?_
      refine zq_wg 2 (pc' := 90) (lv' := [some (.ref x9), some (.int x10)]) (st' := [.int (v37 + (1 : Int32)), .ref x9]) (h' := h35) rfl ?_
      obtain ⟨h39, e40, hf⟩ := zo_b_s hf
      refine zr_pI rfl rfl (by decide) rfl rfl e40 ?_
      exact zr_rv rfl rfl hf
    · have hf := zo_f hf b14
      exact zr_rv rfl rfl hf
  refine zr_if (v6 = 0) 17 25 (st' := []) rfl rfl (fun b41 => ?_) (fun b41 => ?_)
  · have hf := zo_t hf b41
    refine zq_wg 2 (pc' := 19) (lv' := [some (.ref a0), some (.int a1)]) (st' := [.int (1 : Int32), .ref a0]) (h' := h5) rfl ?_
    obtain ⟨e45, w43, h42, e44, hf⟩ := zo_v_s hf
    refine zr_cv zq_m162 [.int (1 : Int32)] [] rfl rfl rfl rfl rfl (Nat.le_of_ble_eq_true rfl) (Nat.le_of_ble_eq_true rfl) e45 (zm_wrong_ok sc d (by omega) e44) ?_
    refine zq_wg 0 (pc' := 22) (lv' := [some (.ref a0), some (.int a1)]) (st' := []) (h' := h42) rfl ?_
    refine zq_wg 1 (pc' := 38) (lv' := [some (.ref a0), some (.int a1)]) (st' := []) (h' := h42) rfl ?_
    exact kj38_11 a0 a1 h42 hf
  · have hf := zo_f hf b41
    refine zq_wg 2 (pc' := 27) (lv' := [some (.ref a0), some (.int a1)]) (st' := [.int (1 : Int32), .ref a0]) (h' := h5) rfl ?_
    obtain ⟨e49, v47, h46, e48, hf⟩ := zo_v_s hf
    refine zr_cv zq_m166 [.int (1 : Int32)] [] rfl rfl rfl rfl rfl (Nat.le_of_ble_eq_true rfl) (Nat.le_of_ble_eq_true rfl) e49 (zm_find_ok sc d (by omega) e48) ?_
    refine zq_wg 0 (pc' := 30) (lv' := [some (.ref a0), some (.int a1)]) (st' := [.int v47]) (h' := h46) rfl ?_
    refine zr_if (v47 < 0) 38 33 (st' := []) rfl rfl (fun b50 => ?_) (fun b50 => ?_)
    · have hf := zo_t hf b50
      exact kj38_11 a0 a1 h46 hf
    · have hf := zo_f hf b50
      refine zq_wg 2 (pc' := 35) (lv' := [some (.ref a0), some (.int a1)]) (st' := [.int (3 : Int32), .ref a0]) (h' := h46) rfl ?_
      obtain ⟨e54, w52, h51, e53, hf⟩ := zo_v_s hf
      refine zr_cv zq_m162 [.int (3 : Int32)] [] rfl rfl rfl rfl rfl (Nat.le_of_ble_eq_true rfl) (Nat.le_of_ble_eq_true rfl) e54 (zm_wrong_ok sc d (by omega) e53) ?_
      refine zq_wg 0 (pc' := 38) (lv' := [some (.ref a0), some (.int a1)]) (st' := []) (h' := h51) rfl ?_
      exact kj38_11 a0 a1 h51 hf
set_option maxRecDepth 4000 in
def zm_takeOne (sc : zX) (a0 : Nat) (a1 : Int32) (a2 : Int32) (h : zH) : Option (Int32 × zH) := zo_b (zo_gI h 10 a0 8) (fun v1 => zo_l (fun (x3 : Nat) (x4 : Int32) (h5 : zH) => zo_b (zo_gI h5 10 x3 8) (fun v6 => zo_l (fun (x8 : Nat) (x9 : Int32) (h10 : zH) => zo_b (zo_gI h10 10 x8 7) (fun v11 => zo_b (zo_gI h10 10 x8 8) (fun v13 => zo_l (if v13 ≤ 0 then (1 : Int32) else (0 : Int32)) (fun (x15 : Int32) => zo_b (zo_pI h10 10 x8 7 (v11 + x15)) (fun h16 => zo_b (zo_gI h16 10 x8 8) (fun v18 => if v18 ≤ 0 then (some (x9, h16)) else (some ((0 : Int32), h16)))))))) (fun j34_10 => if v6 = 0 then (if 0 ≤ x4 then (j34_10 x3 x4 h5) else (zo_v h5 x3 10 (zm_wrong sc x3 (1 : Int32) h5) (fun w25 h24 => j34_10 x3 x4 h24))) else (j34_10 x3 x4 h5)))) (fun j17_5 => if v1 ≤ 0 then (zo_v h a0 10 (zm_wordHere sc a0 a1 a2 h) (fun v30 h29 => j17_5 a0 v30 h29)) else (j17_5 a0 (-1 : Int32) h)))
set_option maxRecDepth 4000 in
theorem zm_takeOne_ok (sc : zX) (d : Nat) (hd : 2 ≤ d) {a0 : Nat} {a1 : Int32} {a2 : Int32} {h : zH} {ro_ : Int32} {ho_ : zH} (hf : zm_takeOne sc a0 a1 a2 h = some (ro_, ho_)) : zq_wm sc d 167 [.ref a0, .int a1, .int a2] h (some (.int ro_), ho_) := by
  unfold zm_takeOne at hf
  obtain ⟨d, rfl⟩ : ∃ d', d = d' + 1 := ⟨d - 1, by omega⟩
  have hd : 1 ≤ d := by omega
  show zq_wp sc (d + 1) 167 0 [some (.ref a0), some (.int a1), some (.int a2), none] [] h _
  refine zq_wg 1 (pc' := 1) (lv' := [some (.ref a0), some (.int a1), some (.int a2), none]) (st' := [.ref a0]) (h' := h) rfl ?_
  obtain ⟨v1, e2, hf⟩ := zo_b_s hf
  refine zr_gI rfl rfl (by decide) rfl e2 ?_
  obtain ⟨j17_5, hjj17_5, hf⟩ := zo_lj hf
  have kj17_5 : ∀ (x3 : Nat) (x4 : Int32) (h5 : zH), j17_5 x3 x4 h5 = some (ro_, ho_) → zq_wp sc (d + 1) 167 17 [some (.ref x3), none, none, none] [.int x4] h5 (some (.int ro_), ho_) := by
    intro x3 x4 h5 hf
    rw [hjj17_5] at hf
    refine zq_wg 2 (pc' := 19) (lv' := [some (.ref x3), none, none, some (.int x4)]) (st' := [.ref x3]) (h' := h5) rfl ?_
    obtain ⟨v6, e7, hf⟩ := zo_b_s hf
    refine zr_gI rfl rfl (by decide) rfl e7 ?_
    obtain ⟨j34_10, hjj34_10, hf⟩ := zo_lj hf
    have kj34_10 : ∀ (x8 : Nat) (x9 : Int32) (h10 : zH), j34_10 x8 x9 h10 = some (ro_, ho_) → zq_wp sc (d + 1) 167 34 [some (.ref x8), none, none, some (.int x9)] [] h10 (some (.int ro_), ho_) := by
      intro x8 x9 h10 hf
      rw [hjj34_10] at hf
      refine zq_wg 2 (pc' := 36) (lv' := [some (.ref x8), none, none, some (.int x9)]) (st' := [.ref x8, .ref x8]) (h' := h10) rfl ?_
      obtain ⟨v11, e12, hf⟩ := zo_b_s hf
      refine zr_gI rfl rfl (by decide) rfl e12 ?_
      refine zq_wg 1 (pc' := 40) (lv' := [some (.ref x8), none, none, some (.int x9)]) (st' := [.ref x8, .int v11, .ref x8]) (h' := h10) rfl ?_
      obtain ⟨v13, e14, hf⟩ := zo_b_s hf
      refine zr_gI rfl rfl (by decide) rfl e14 ?_
      obtain ⟨g51_15, hg51_15, hf⟩ := zo_lx hf
      have kg51_15 : ∀ (x15 : Int32), g51_15 x15 = some (ro_, ho_) → zq_wp sc (d + 1) 167 51 [some (.ref x8), none, none, some (.int x9)] [.int x15, .int v11, .ref x8] h10 (some (.int ro_), ho_) := by
        intro x15 hf
        rw [hg51_15] at hf
        refine zq_wg 1 (pc' := 52) (lv' := [some (.ref x8), none, none, some (.int x9)]) (st' := [.int (v11 + x15), .ref x8]) (h' := h10) rfl ?_
        obtain ⟨h16, e17, hf⟩ := zo_b_s hf
        refine zr_pI rfl rfl (by decide) rfl rfl e17 ?_
        refine zq_wg 1 (pc' := 56) (lv' := [some (.ref x8), none, none, some (.int x9)]) (st' := [.ref x8]) (h' := h16) rfl ?_
        obtain ⟨v18, e19, hf⟩ := zo_b_s hf
        refine zr_gI rfl rfl (by decide) rfl e19 ?_
        refine zr_if (v18 ≤ 0) 66 62 (st' := []) rfl rfl (fun b20 => ?_) (fun b20 => ?_)
        · have hf := zo_t hf b20
          refine zq_wg 1 (pc' := 67) (lv' := [some (.ref x8), none, none, some (.int x9)]) (st' := [.int x9]) (h' := h16) rfl ?_
          exact zr_ri rfl rfl rfl hf
        · have hf := zo_f hf b20
          refine zq_wg 2 (pc' := 67) (lv' := [some (.ref x8), none, none, some (.int x9)]) (st' := [.int (0 : Int32)]) (h' := h16) rfl ?_
          exact zr_ri rfl rfl rfl hf
      refine zr_if (v13 ≤ 0) 50 46 (st' := [.int v11, .ref x8]) rfl rfl (fun b21 => ?_) (fun b21 => ?_)
      · have hf := zo_lt hf b21
        refine zq_wg 1 (pc' := 51) (lv' := [some (.ref x8), none, none, some (.int x9)]) (st' := [.int (1 : Int32), .int v11, .ref x8]) (h' := h10) rfl ?_
        exact kg51_15 _ hf
      · have hf := zo_lf hf b21
        refine zq_wg 2 (pc' := 51) (lv' := [some (.ref x8), none, none, some (.int x9)]) (st' := [.int (0 : Int32), .int v11, .ref x8]) (h' := h10) rfl ?_
        exact kg51_15 _ hf
    refine zr_if (v6 = 0) 25 34 (st' := []) rfl rfl (fun b22 => ?_) (fun b22 => ?_)
    · have hf := zo_t hf b22
      refine zq_wg 1 (pc' := 26) (lv' := [some (.ref x3), none, none, some (.int x4)]) (st' := [.int x4]) (h' := h5) rfl ?_
      refine zr_if (0 ≤ x4) 34 29 (st' := []) rfl rfl (fun b23 => ?_) (fun b23 => ?_)
      · have hf := zo_t hf b23
        exact kj34_10 x3 x4 h5 hf
      · have hf := zo_f hf b23
        refine zq_wg 2 (pc' := 31) (lv' := [some (.ref x3), none, none, some (.int x4)]) (st' := [.int (1 : Int32), .ref x3]) (h' := h5) rfl ?_
        obtain ⟨e27, w25, h24, e26, hf⟩ := zo_v_s hf
        refine zr_cv zq_m162 [.int (1 : Int32)] [] rfl rfl rfl rfl rfl (Nat.le_of_ble_eq_true rfl) (Nat.le_of_ble_eq_true rfl) e27 (zm_wrong_ok sc d (by omega) e26) ?_
        refine zq_wg 0 (pc' := 34) (lv' := [some (.ref x3), none, none, some (.int x4)]) (st' := []) (h' := h24) rfl ?_
        exact kj34_10 x3 x4 h24 hf
    · have hf := zo_f hf b22
      exact kj34_10 x3 x4 h5 hf
  refine zr_if (v1 ≤ 0) 11 7 (st' := []) rfl rfl (fun b28 => ?_) (fun b28 => ?_)
  · have hf := zo_t hf b28
    refine zq_wg 3 (pc' := 14) (lv' := [some (.ref a0), some (.int a1), some (.int a2), none]) (st' := [.int a2, .int a1, .ref a0]) (h' := h) rfl ?_
    obtain ⟨e32, v30, h29, e31, hf⟩ := zo_v_s hf
    refine zr_cv zq_m165 [.int a1, .int a2] [] rfl rfl rfl rfl rfl (Nat.le_of_ble_eq_true rfl) (Nat.le_of_ble_eq_true rfl) e32 (zm_wordHere_ok sc d (by omega) e31) ?_
    refine zq_wg 0 (pc' := 17) (lv' := [some (.ref a0), some (.int a1), some (.int a2), none]) (st' := [.int v30]) (h' := h29) rfl ?_
    refine zq_fg [some (.ref a0), none, none, none] (zq_lvle_s (zq_lvle_n (zq_lvle_n (zq_lvle_s zq_lvle_nil)))) ?_
    exact kj17_5 a0 v30 h29 hf
  · have hf := zo_f hf b28
    refine zq_wg 2 (pc' := 17) (lv' := [some (.ref a0), some (.int a1), some (.int a2), none]) (st' := [.int (-1 : Int32)]) (h' := h) rfl ?_
    refine zq_fg [some (.ref a0), none, none, none] (zq_lvle_s (zq_lvle_n (zq_lvle_n (zq_lvle_s zq_lvle_nil)))) ?_
    exact kj17_5 a0 (-1 : Int32) h hf
set_option maxRecDepth 4000 in
def zm_hasWord (sc : zX) (a0 : Nat) (a1 : Int32) (h : zH) : Option (Int32 × zH) := zo_v h a0 10 (zm_isWord sc a0 a1 h) (fun v2 h1 => zo_b (zo_gI h1 10 a0 7) (fun v5 => zo_l (if v2 = 0 then (0 : Int32) else (1 : Int32)) (fun (x7 : Int32) => zo_b (zo_pI h1 10 a0 7 (v5 + x7)) (fun h8 => zo_rb v2 h8))))
set_option maxRecDepth 4000 in
theorem zm_hasWord_ok (sc : zX) (d : Nat) (hd : 1 ≤ d) {a0 : Nat} {a1 : Int32} {h : zH} {ro_ : Int32} {ho_ : zH} (hf : zm_hasWord sc a0 a1 h = some (ro_, ho_)) : zq_wm sc d 170 [.ref a0, .int a1] h (some (.int ro_), ho_) := by
  unfold zm_hasWord at hf
  obtain ⟨d, rfl⟩ : ∃ d', d = d' + 1 := ⟨d - 1, by omega⟩
  have hd : 0 ≤ d := by omega
  show zq_wp sc (d + 1) 170 0 [some (.ref a0), some (.int a1), none] [] h _
  refine zq_wg 2 (pc' := 2) (lv' := [some (.ref a0), some (.int a1), none]) (st' := [.int a1, .ref a0]) (h' := h) rfl ?_
  obtain ⟨e4, v2, h1, e3, hf⟩ := zo_v_s hf
  refine zr_cv zq_m160 [.int a1] [] rfl rfl rfl rfl rfl (Nat.le_of_ble_eq_true rfl) (Nat.le_of_ble_eq_true rfl) e4 (zm_isWord_ok sc d (by omega) e3) ?_
  refine zq_wg 0 (pc' := 5) (lv' := [some (.ref a0), some (.int a1), none]) (st' := [.int v2]) (h' := h1) rfl ?_
  refine zq_wg 3 (pc' := 8) (lv' := [some (.ref a0), some (.int a1), some (.int v2)]) (st' := [.ref a0, .ref a0]) (h' := h1) rfl ?_
  obtain ⟨v5, e6, hf⟩ := zo_b_s hf
  refine zr_gI rfl rfl (by decide) rfl e6 ?_
  refine zq_wg 1 (pc' := 12) (lv' := [some (.ref a0), some (.int a1), some (.int v2)]) (st' := [.int v2, .int v5, .ref a0]) (h' := h1) rfl ?_
  obtain ⟨g20_7, hg20_7, hf⟩ := zo_lx hf
  have kg20_7 : ∀ (x7 : Int32), g20_7 x7 = some (ro_, ho_) → zq_wp sc (d + 1) 170 20 [some (.ref a0), some (.int a1), some (.int v2)] [.int x7, .int v5, .ref a0] h1 (some (.int ro_), ho_) := by
    intro x7 hf
    rw [hg20_7] at hf
    refine zq_wg 1 (pc' := 21) (lv' := [some (.ref a0), some (.int a1), some (.int v2)]) (st' := [.int (v5 + x7), .ref a0]) (h' := h1) rfl ?_
    obtain ⟨h8, e9, hf⟩ := zo_b_s hf
    refine zr_pI rfl rfl (by decide) rfl rfl e9 ?_
    refine zq_wg 1 (pc' := 25) (lv' := [some (.ref a0), some (.int a1), some (.int v2)]) (st' := [.int v2]) (h' := h8) rfl ?_
    exact zr_rb rfl rfl hf
  refine zr_if (v2 = 0) 19 15 (st' := [.int v5, .ref a0]) rfl rfl (fun b10 => ?_) (fun b10 => ?_)
  · have hf := zo_lt hf b10
    refine zq_wg 1 (pc' := 20) (lv' := [some (.ref a0), some (.int a1), some (.int v2)]) (st' := [.int (0 : Int32), .int v5, .ref a0]) (h' := h1) rfl ?_
    exact kg20_7 _ hf
  · have hf := zo_lf hf b10
    refine zq_wg 2 (pc' := 20) (lv' := [some (.ref a0), some (.int a1), some (.int v2)]) (st' := [.int (1 : Int32), .int v5, .ref a0]) (h' := h1) rfl ?_
    exact kg20_7 _ hf
set_option maxRecDepth 4000 in
def zm_takeWord (sc : zX) (a0 : Nat) (a1 : Int32) (h : zH) : Option (Unit × zH) := zo_v h a0 10 (zm_hasWord sc a0 a1 h) (fun v2 h1 => if v2 = 0 then (zo_v h1 a0 10 (zm_wrong sc a0 (1 : Int32) h1) (fun w7 h6 => some ((), h6))) else (some ((), h1)))
set_option maxRecDepth 4000 in
theorem zm_takeWord_ok (sc : zX) (d : Nat) (hd : 2 ≤ d) {a0 : Nat} {a1 : Int32} {h : zH} {ro_ : Unit} {ho_ : zH} (hf : zm_takeWord sc a0 a1 h = some (ro_, ho_)) : zq_wm sc d 169 [.ref a0, .int a1] h (none, ho_) := by
  unfold zm_takeWord at hf
  obtain ⟨d, rfl⟩ : ∃ d', d = d' + 1 := ⟨d - 1, by omega⟩
  have hd : 1 ≤ d := by omega
  show zq_wp sc (d + 1) 169 0 [some (.ref a0), some (.int a1)] [] h _
  refine zq_wg 2 (pc' := 2) (lv' := [some (.ref a0), some (.int a1)]) (st' := [.int a1, .ref a0]) (h' := h) rfl ?_
  obtain ⟨e4, v2, h1, e3, hf⟩ := zo_v_s hf
  refine zr_cv zq_m170 [.int a1] [] rfl rfl rfl rfl rfl (Nat.le_of_ble_eq_true rfl) (Nat.le_of_ble_eq_true rfl) e4 (zm_hasWord_ok sc d (by omega) e3) ?_
  refine zq_wg 0 (pc' := 5) (lv' := [some (.ref a0), some (.int a1)]) (st' := [.int v2]) (h' := h1) rfl ?_
  refine zr_if (v2 = 0) 8 13 (st' := []) rfl rfl (fun b5 => ?_) (fun b5 => ?_)
  · have hf := zo_t hf b5
    refine zq_wg 2 (pc' := 10) (lv' := [some (.ref a0), some (.int a1)]) (st' := [.int (1 : Int32), .ref a0]) (h' := h1) rfl ?_
    obtain ⟨e9, w7, h6, e8, hf⟩ := zo_v_s hf
    refine zr_cv zq_m162 [.int (1 : Int32)] [] rfl rfl rfl rfl rfl (Nat.le_of_ble_eq_true rfl) (Nat.le_of_ble_eq_true rfl) e9 (zm_wrong_ok sc d (by omega) e8) ?_
    refine zq_wg 0 (pc' := 13) (lv' := [some (.ref a0), some (.int a1)]) (st' := []) (h' := h6) rfl ?_
    exact zr_rv rfl rfl hf
  · have hf := zo_f hf b5
    exact zr_rv rfl rfl hf
set_option maxRecDepth 4000 in
def zm_takeNumber (sc : zX) (a0 : Nat) (a1 : Int32) (a2 : Int32) (h : zH) : Option (Int32 × zH) := zo_b (zo_gI h 10 a0 8) (fun v1 => zo_l (fun (x3 : Nat) (h4 : zH) => zo_b (zo_gI h4 10 x3 8) (fun v5 => if v5 ≤ 0 then (zo_b (zo_gI h4 10 x3 7) (fun v8 => zo_b (zo_pI h4 10 x3 7 (v8 + (1 : Int32))) (fun h10 => zo_b (zo_gR h10 10 x3 6) (fun v12 => zo_b (zo_gI h10 10 x3 7) (fun v14 => zo_b (zq_rdL h10 v12 (v14 - (1 : Int32))) (fun v16 => some (v16.toInt32, h10))))))) else (some ((0 : Int32), h4)))) (fun j70_4 => zo_l (fun (x18 : Nat) (x19 : Int32) (x20 : Int32) (h21 : zH) => zo_b (zo_gI h21 10 x18 8) (fun v22 => if v22 = 0 then (zo_b (zo_gR h21 10 x18 6) (fun v25 => zo_b (zo_gI h21 10 x18 7) (fun v27 => zo_b (zq_rdL h21 v25 v27) (fun v29 => zo_l (fun (x31 : Nat) (h32 : zH) => zo_v h32 x31 10 (zm_wrong sc x31 (4 : Int32) h32) (fun w34 h33 => j70_4 x31 h33)) (fun j65_32 => if (lg_cmp v29 x19.toInt64) < 0 then (j65_32 x18 h21) else (zo_b (zo_gR h21 10 x18 6) (fun v38 => zo_b (zo_gI h21 10 x18 7) (fun v40 => zo_b (zq_rdL h21 v38 v40) (fun v42 => if (lg_cmp v42 x20.toInt64) ≤ 0 then (j70_4 x18 h21) else (j65_32 x18 h21)))))))))) else (j70_4 x18 h21))) (fun j28_21 => if v1 = 0 then (zo_b (zo_gR h 10 a0 4) (fun v46 => zo_b (zo_gI h 10 a0 7) (fun v48 => zo_b (zq_rdI sc h v46 v48) (fun v50 => if v50 = (2 : Int32) then (j28_21 a0 a1 a2 h) else (zo_v h a0 10 (zm_wrong sc a0 (1 : Int32) h) (fun w54 h53 => j70_4 a0 h53)))))) else (j28_21 a0 a1 a2 h))))
set_option maxRecDepth 4000 in
theorem zm_takeNumber_ok (sc : zX) (d : Nat) (hd : 1 ≤ d) {a0 : Nat} {a1 : Int32} {a2 : Int32} {h : zH} {ro_ : Int32} {ho_ : zH} (hf : zm_takeNumber sc a0 a1 a2 h = some (ro_, ho_)) : zq_wm sc d 171 [.ref a0, .int a1, .int a2] h (some (.int ro_), ho_) := by
  unfold zm_takeNumber at hf
  obtain ⟨d, rfl⟩ : ∃ d', d = d' + 1 := ⟨d - 1, by omega⟩
  have hd : 0 ≤ d := by omega
  show zq_wp sc (d + 1) 171 0 [some (.ref a0), some (.int a1), some (.int a2)] [] h _
  refine zq_wg 1 (pc' := 1) (lv' := [some (.ref a0), some (.int a1), some (.int a2)]) (st' := [.ref a0]) (h' := h) rfl ?_
  obtain ⟨v1, e2, hf⟩ := zo_b_s hf
  refine zr_gI rfl rfl (by decide) rfl e2 ?_
  obtain ⟨j70_4, hjj70_4, hf⟩ := zo_lj hf
  have kj70_4 : ∀ (x3 : Nat) (h4 : zH), j70_4 x3 h4 = some (ro_, ho_) → zq_wp sc (d + 1) 171 70 [some (.ref x3), none, none] [] h4 (some (.int ro_), ho_) := by
    intro x3 h4 hf
    rw [hjj70_4] at hf
    refine zq_wg 1 (pc' := 71) (lv' := [some (.ref x3), none, none]) (st' := [.ref x3]) (h' := h4) rfl ?_
    obtain ⟨v5, e6, hf⟩ := zo_b_s hf
    refine zr_gI rfl rfl (by decide) rfl e6 ?_
    refine zr_if (v5 ≤ 0) 79 77 (st' := []) rfl rfl (fun b7 => ?_) (fun b7 => ?_)
    · have hf := zo_t hf b7
      refine zq_wg 2 (pc' := 81) (lv' := [some (.ref x3), none, none]) (st' := [.ref x3, .ref x3]) (h' := h4) rfl ?_
      obtain ⟨v8, e9, hf⟩ := zo_b_s hf
      refine zr_gI rfl rfl (by decide) rfl e9 ?_
      refine zq_wg 2 (pc' := 86) (lv' := [some (.ref x3), none, none]) (st' := [.int (v8 + (1 : Int32)), .ref x3]) (h' := h4) rfl ?_
      obtain ⟨h10, e11, hf⟩ := zo_b_s hf
      refine zr_pI rfl rfl (by decide) rfl rfl e11 ?_
      refine zq_wg 1 (pc' := 90) (lv' := [some (.ref x3), none, none]) (st' := [.ref x3]) (h' := h10) rfl ?_
      obtain ⟨v12, e13, hf⟩ := zo_b_s hf
      refine zr_gR rfl rfl (by decide) rfl e13 ?_
      refine zq_wg 1 (pc' := 94) (lv' := [some (.ref x3), none, none]) (st' := [.ref x3, .ref v12]) (h' := h10) rfl ?_
      obtain ⟨v14, e15, hf⟩ := zo_b_s hf
      refine zr_gI rfl rfl (by decide) rfl e15 ?_
      refine zq_wg 2 (pc' := 99) (lv' := [some (.ref x3), none, none]) (st' := [.int (v14 - (1 : Int32)), .ref v12]) (h' := h10) rfl ?_
      obtain ⟨v16, e17, hf⟩ := zo_b_s hf
      refine zr_lald rfl e17 ?_
      refine zq_wg 1 (pc' := 101) (lv' := [some (.ref x3), none, none]) (st' := [.int v16.toInt32]) (h' := h10) rfl ?_
      exact zr_ri rfl rfl rfl hf
    · have hf := zo_f hf b7
      refine zq_wg 1 (pc' := 78) (lv' := [some (.ref x3), none, none]) (st' := [.int (0 : Int32)]) (h' := h4) rfl ?_
      exact zr_ri rfl rfl rfl hf
  obtain ⟨j28_21, hjj28_21, hf⟩ := zo_lj hf
  have kj28_21 : ∀ (x18 : Nat) (x19 : Int32) (x20 : Int32) (h21 : zH), j28_21 x18 x19 x20 h21 = some (ro_, ho_) → zq_wp sc (d + 1) 171 28 [some (.ref x18), some (.int x19), some (.int x20)] [] h21 (some (.int ro_), ho_) := by
    intro x18 x19 x20 h21 hf
    rw [hjj28_21] at hf
    refine zq_wg 1 (pc' := 29) (lv' := [some (.ref x18), some (.int x19), some (.int x20)]) (st' := [.ref x18]) (h' := h21) rfl ?_
    obtain ⟨v22, e23, hf⟩ := zo_b_s hf
    refine zr_gI rfl rfl (by decide) rfl e23 ?_
    refine zr_if (v22 = 0) 35 70 (st' := []) rfl rfl (fun b24 => ?_) (fun b24 => ?_)
    · have hf := zo_t hf b24
      refine zq_wg 1 (pc' := 36) (lv' := [some (.ref x18), some (.int x19), some (.int x20)]) (st' := [.ref x18]) (h' := h21) rfl ?_
      obtain ⟨v25, e26, hf⟩ := zo_b_s hf
      refine zr_gR rfl rfl (by decide) rfl e26 ?_
      refine zq_wg 1 (pc' := 40) (lv' := [some (.ref x18), some (.int x19), some (.int x20)]) (st' := [.ref x18, .ref v25]) (h' := h21) rfl ?_
      obtain ⟨v27, e28, hf⟩ := zo_b_s hf
      refine zr_gI rfl rfl (by decide) rfl e28 ?_
      obtain ⟨v29, e30, hf⟩ := zo_b_s hf
      refine zr_lald rfl e30 ?_
      refine zq_wg 3 (pc' := 47) (lv' := [some (.ref x18), some (.int x19), some (.int x20)]) (st' := [.int (lg_cmp v29 x19.toInt64)]) (h' := h21) rfl ?_
      obtain ⟨j65_32, hjj65_32, hf⟩ := zo_lj hf
      have kj65_32 : ∀ (x31 : Nat) (h32 : zH), j65_32 x31 h32 = some (ro_, ho_) → zq_wp sc (d + 1) 171 65 [some (.ref x31), none, none] [] h32 (some (.int ro_), ho_) := by
        intro x31 h32 hf
        rw [hjj65_32] at hf
        refine zq_wg 2 (pc' := 67) (lv' := [some (.ref x31), none, none]) (st' := [.int (4 : Int32), .ref x31]) (h' := h32) rfl ?_
        obtain ⟨e36, w34, h33, e35, hf⟩ := zo_v_s hf
        refine zr_cv zq_m162 [.int (4 : Int32)] [] rfl rfl rfl rfl rfl (Nat.le_of_ble_eq_true rfl) (Nat.le_of_ble_eq_true rfl) e36 (zm_wrong_ok sc d (by omega) e35) ?_
        refine zq_wg 0 (pc' := 70) (lv' := [some (.ref x31), none, none]) (st' := []) (h' := h33) rfl ?_
        exact kj70_4 x31 h33 hf
      refine zr_if ((lg_cmp v29 x19.toInt64) < 0) 65 50 (st' := []) rfl rfl (fun b37 => ?_) (fun b37 => ?_)
      · have hf := zo_t hf b37
        refine zq_fg [some (.ref x18), none, none] (zq_lvle_s (zq_lvle_n (zq_lvle_n zq_lvle_nil))) ?_
        exact kj65_32 x18 h21 hf
      · have hf := zo_f hf b37
        refine zq_wg 1 (pc' := 51) (lv' := [some (.ref x18), some (.int x19), some (.int x20)]) (st' := [.ref x18]) (h' := h21) rfl ?_
        obtain ⟨v38, e39, hf⟩ := zo_b_s hf
        refine zr_gR rfl rfl (by decide) rfl e39 ?_
        refine zq_wg 1 (pc' := 55) (lv' := [some (.ref x18), some (.int x19), some (.int x20)]) (st' := [.ref x18, .ref v38]) (h' := h21) rfl ?_
        obtain ⟨v40, e41, hf⟩ := zo_b_s hf
        refine zr_gI rfl rfl (by decide) rfl e41 ?_
        obtain ⟨v42, e43, hf⟩ := zo_b_s hf
        refine zr_lald rfl e43 ?_
        refine zq_wg 3 (pc' := 62) (lv' := [some (.ref x18), some (.int x19), some (.int x20)]) (st' := [.int (lg_cmp v42 x20.toInt64)]) (h' := h21) rfl ?_
        refine zr_if ((lg_cmp v42 x20.toInt64) ≤ 0) 70 65 (st' := []) rfl rfl (fun b44 => ?_) (fun b44 => ?_)
        · have hf := zo_t hf b44
          refine zq_fg [some (.ref x18), none, none] (zq_lvle_s (zq_lvle_n (zq_lvle_n zq_lvle_nil))) ?_
          exact kj70_4 x18 h21 hf
        · have hf := zo_f hf b44
          refine zq_fg [some (.ref x18), none, none] (zq_lvle_s (zq_lvle_n (zq_lvle_n zq_lvle_nil))) ?_
          exact kj65_32 x18 h21 hf
    · have hf := zo_f hf b24
      refine zq_fg [some (.ref x18), none, none] (zq_lvle_s (zq_lvle_n (zq_lvle_n zq_lvle_nil))) ?_
      exact kj70_4 x18 h21 hf
  refine zr_if (v1 = 0) 7 28 (st' := []) rfl rfl (fun b45 => ?_) (fun b45 => ?_)
  · have hf := zo_t hf b45
    refine zq_wg 1 (pc' := 8) (lv' := [some (.ref a0), some (.int a1), some (.int a2)]) (st' := [.ref a0]) (h' := h) rfl ?_
    obtain ⟨v46, e47, hf⟩ := zo_b_s hf
    refine zr_gR rfl rfl (by decide) rfl e47 ?_
    refine zq_wg 1 (pc' := 12) (lv' := [some (.ref a0), some (.int a1), some (.int a2)]) (st' := [.ref a0, .ref v46]) (h' := h) rfl ?_
    obtain ⟨v48, e49, hf⟩ := zo_b_s hf
    refine zr_gI rfl rfl (by decide) rfl e49 ?_
    obtain ⟨v50, e51, hf⟩ := zo_b_s hf
    refine zr_iald rfl e51 ?_
    refine zq_wg 1 (pc' := 17) (lv' := [some (.ref a0), some (.int a1), some (.int a2)]) (st' := [.int (2 : Int32), .int v50]) (h' := h) rfl ?_
    refine zr_if (v50 = (2 : Int32)) 28 20 (st' := []) rfl rfl (fun b52 => ?_) (fun b52 => ?_)
    · have hf := zo_t hf b52
      exact kj28_21 a0 a1 a2 h hf
    · have hf := zo_f hf b52
      refine zq_wg 2 (pc' := 22) (lv' := [some (.ref a0), some (.int a1), some (.int a2)]) (st' := [.int (1 : Int32), .ref a0]) (h' := h) rfl ?_
      obtain ⟨e56, w54, h53, e55, hf⟩ := zo_v_s hf
      refine zr_cv zq_m162 [.int (1 : Int32)] [] rfl rfl rfl rfl rfl (Nat.le_of_ble_eq_true rfl) (Nat.le_of_ble_eq_true rfl) e56 (zm_wrong_ok sc d (by omega) e55) ?_
      refine zq_wg 0 (pc' := 25) (lv' := [some (.ref a0), some (.int a1), some (.int a2)]) (st' := []) (h' := h53) rfl ?_
      refine zq_wg 1 (pc' := 70) (lv' := [some (.ref a0), some (.int a1), some (.int a2)]) (st' := []) (h' := h53) rfl ?_
      refine zq_fg [some (.ref a0), none, none] (zq_lvle_s (zq_lvle_n (zq_lvle_n zq_lvle_nil))) ?_
      exact kj70_4 a0 h53 hf
  · have hf := zo_f hf b45
    exact kj28_21 a0 a1 a2 h hf
set_option maxRecDepth 4000 in
def zm_takeAfter (sc : zX) (a0 : Nat) (a1 : Int32) (a2 : Int32) (a3 : Int32) (h : zH) : Option (Int32 × zH) := zo_v h a0 10 (zm_takeWord sc a0 a1 h) (fun w2 h1 => zo_v h1 a0 10 (zm_takeNumber sc a0 a2 a3 h1) (fun v6 h5 => some (v6, h5)))
set_option maxRecDepth 4000 in
theorem zm_takeAfter_ok (sc : zX) (d : Nat) (hd : 3 ≤ d) {a0 : Nat} {a1 : Int32} {a2 : Int32} {a3 : Int32} {h : zH} {ro_ : Int32} {ho_ : zH} (hf : zm_takeAfter sc a0 a1 a2 a3 h = some (ro_, ho_)) : zq_wm sc d 168 [.ref a0, .int a1, .int a2, .int a3] h (some (.int ro_), ho_) := by
  unfold zm_takeAfter at hf
  obtain ⟨d, rfl⟩ : ∃ d', d = d' + 1 := ⟨d - 1, by omega⟩
  have hd : 2 ≤ d := by omega
  show zq_wp sc (d + 1) 168 0 [some (.ref a0), some (.int a1), some (.int a2), some (.int a3)] [] h _
  refine zq_wg 2 (pc' := 2) (lv' := [some (.ref a0), some (.int a1), some (.int a2), some (.int a3)]) (st' := [.int a1, .ref a0]) (h' := h) rfl ?_
  obtain ⟨e4, w2, h1, e3, hf⟩ := zo_v_s hf
  refine zr_cv zq_m169 [.int a1] [] rfl rfl rfl rfl rfl (Nat.le_of_ble_eq_true rfl) (Nat.le_of_ble_eq_true rfl) e4 (zm_takeWord_ok sc d (by omega) e3) ?_
  refine zq_wg 0 (pc' := 5) (lv' := [some (.ref a0), some (.int a1), some (.int a2), some (.int a3)]) (st' := []) (h' := h1) rfl ?_
  refine zq_wg 3 (pc' := 8) (lv' := [some (.ref a0), some (.int a1), some (.int a2), some (.int a3)]) (st' := [.int a3, .int a2, .ref a0]) (h' := h1) rfl ?_
  obtain ⟨e8, v6, h5, e7, hf⟩ := zo_v_s hf
  refine zr_cv zq_m171 [.int a2, .int a3] [] rfl rfl rfl rfl rfl (Nat.le_of_ble_eq_true rfl) (Nat.le_of_ble_eq_true rfl) e8 (zm_takeNumber_ok sc d (by omega) e7) ?_
  refine zq_wg 0 (pc' := 11) (lv' := [some (.ref a0), some (.int a1), some (.int a2), some (.int a3)]) (st' := [.int v6]) (h' := h5) rfl ?_
  exact zr_ri rfl rfl rfl hf
set_option maxRecDepth 4000 in
def zm_within (sc : zX) (a0 : Int32) (a1 : Int32) (a2 : Int32) (h : zH) : Option (Int32 × zH) := if a0 < a1 then (some ((0 : Int32), h)) else (if a2 < a0 then (some ((0 : Int32), h)) else (some ((1 : Int32), h)))
set_option maxRecDepth 4000 in
theorem zm_within_ok (sc : zX) (d : Nat) (hd : 0 ≤ d) {a0 : Int32} {a1 : Int32} {a2 : Int32} {h : zH} {ro_ : Int32} {ho_ : zH} (hf : zm_within sc a0 a1 a2 h = some (ro_, ho_)) : zq_wm sc d 173 [.int a0, .int a1, .int a2] h (some (.int ro_), ho_) := by
  unfold zm_within at hf
  show zq_wp sc d 173 0 [some (.int a0), some (.int a1), some (.int a2)] [] h _
  refine zq_wg 2 (pc' := 2) (lv' := [some (.int a0), some (.int a1), some (.int a2)]) (st' := [.int a1, .int a0]) (h' := h) rfl ?_
  refine zr_if (a0 < a1) 14 5 (st' := []) rfl rfl (fun b1 => ?_) (fun b1 => ?_)
  · have hf := zo_t hf b1
    refine zq_wg 1 (pc' := 15) (lv' := [some (.int a0), some (.int a1), some (.int a2)]) (st' := [.int (0 : Int32)]) (h' := h) rfl ?_
    exact zr_ri rfl rfl rfl hf
  · have hf := zo_f hf b1
    refine zq_wg 2 (pc' := 7) (lv' := [some (.int a0), some (.int a1), some (.int a2)]) (st' := [.int a2, .int a0]) (h' := h) rfl ?_
    refine zr_if (a2 < a0) 14 10 (st' := []) rfl rfl (fun b2 => ?_) (fun b2 => ?_)
    · have hf := zo_t hf b2
      refine zq_wg 1 (pc' := 15) (lv' := [some (.int a0), some (.int a1), some (.int a2)]) (st' := [.int (0 : Int32)]) (h' := h) rfl ?_
      exact zr_ri rfl rfl rfl hf
    · have hf := zo_f hf b2
      refine zq_wg 2 (pc' := 15) (lv' := [some (.int a0), some (.int a1), some (.int a2)]) (st' := [.int (1 : Int32)]) (h' := h) rfl ?_
      exact zr_ri rfl rfl rfl hf
set_option maxRecDepth 4000 in
def zm_toldHere (sc : zX) (a0 : Nat) (a1 : Int32) (a2 : Int32) (a3 : Int32) (h : zH) : Option (Int32 × zH) := zo_b (zo_gI h 10 a0 8) (fun v1 => zo_l (fun (x3 : Nat) (x4 : Int32) (x5 : Int32) (x6 : Int32) (h7 : zH) => zo_b (zo_gI h7 10 x3 8) (fun v8 => zo_l (fun (x10 : Nat) (x11 : Int32) (x12 : Int32) (h13 : zH) => zo_b (zo_gI h13 10 x10 8) (fun v14 => zo_l (fun (x16 : Nat) (x17 : Int32) (h18 : zH) => zo_b (zo_gI h18 10 x16 8) (fun v19 => if v19 ≤ 0 then (some (x17, h18)) else (some ((0 : Int32), h18)))) (fun j63_18 => if v14 = 0 then (zo_c (zm_within sc x12 (0 : Int32) (x11 - (1 : Int32)) h13) (fun v24 h23 => if v24 = 0 then (zo_v h23 x10 10 (zm_wrong sc x10 (2 : Int32) h23) (fun w28 h27 => j63_18 x10 x12 h27)) else (j63_18 x10 x12 h23))) else (j63_18 x10 x12 h13)))) (fun j37_13 => if v8 ≤ 0 then (zo_v h7 x3 10 (zm_find sc x3 x4 h7) (fun v33 h32 => j37_13 x3 x6 (v33 - x5) h32)) else (j37_13 x3 x6 (-1 : Int32) h7)))) (fun j19_7 => if v1 = 0 then (zo_v h a0 10 (zm_isName sc a0 h) (fun v38 h37 => if v38 = 0 then (zo_v h37 a0 10 (zm_wrong sc a0 (1 : Int32) h37) (fun w43 h42 => j19_7 a0 a1 a2 a3 h42)) else (j19_7 a0 a1 a2 a3 h37))) else (j19_7 a0 a1 a2 a3 h)))
set_option maxRecDepth 4000 in
theorem zm_toldHere_ok (sc : zX) (d : Nat) (hd : 3 ≤ d) {a0 : Nat} {a1 : Int32} {a2 : Int32} {a3 : Int32} {h : zH} {ro_ : Int32} {ho_ : zH} (hf : zm_toldHere sc a0 a1 a2 a3 h = some (ro_, ho_)) : zq_wm sc d 172 [.ref a0, .int a1, .int a2, .int a3] h (some (.int ro_), ho_) := by
  unfold zm_toldHere at hf
  obtain ⟨d, rfl⟩ : ∃ d', d = d' + 1 := ⟨d - 1, by omega⟩
  have hd : 2 ≤ d := by omega
  show zq_wp sc (d + 1) 172 0 [some (.ref a0), some (.int a1), some (.int a2), some (.int a3), none] [] h _
  refine zq_wg 1 (pc' := 1) (lv' := [some (.ref a0), some (.int a1), some (.int a2), some (.int a3), none]) (st' := [.ref a0]) (h' := h) rfl ?_
  obtain ⟨v1, e2, hf⟩ := zo_b_s hf
  refine zr_gI rfl rfl (by decide) rfl e2 ?_
  obtain ⟨j19_7, hjj19_7, hf⟩ := zo_lj hf
  have kj19_7 : ∀ (x3 : Nat) (x4 : Int32) (x5 : Int32) (x6 : Int32) (h7 : zH), j19_7 x3 x4 x5 x6 h7 = some (ro_, ho_) → zq_wp sc (d + 1) 172 19 [some (.ref x3), some (.int x4), some (.int x5), some (.int x6), none] [] h7 (some (.int ro_), ho_) := by
    intro x3 x4 x5 x6 h7 hf
    rw [hjj19_7] at hf
    refine zq_wg 1 (pc' := 20) (lv' := [some (.ref x3), some (.int x4), some (.int x5), some (.int x6), none]) (st' := [.ref x3]) (h' := h7) rfl ?_
    obtain ⟨v8, e9, hf⟩ := zo_b_s hf
    refine zr_gI rfl rfl (by decide) rfl e9 ?_
    obtain ⟨j37_13, hjj37_13, hf⟩ := zo_lj hf
    have kj37_13 : ∀ (x10 : Nat) (x11 : Int32) (x12 : Int32) (h13 : zH), j37_13 x10 x11 x12 h13 = some (ro_, ho_) → zq_wp sc (d + 1) 172 37 [some (.ref x10), none, none, some (.int x11), none] [.int x12] h13 (some (.int ro_), ho_) := by
      intro x10 x11 x12 h13 hf
      rw [hjj37_13] at hf
      refine zq_wg 2 (pc' := 40) (lv' := [some (.ref x10), none, none, some (.int x11), some (.int x12)]) (st' := [.ref x10]) (h' := h13) rfl ?_
      obtain ⟨v14, e15, hf⟩ := zo_b_s hf
      refine zr_gI rfl rfl (by decide) rfl e15 ?_
      obtain ⟨j63_18, hjj63_18, hf⟩ := zo_lj hf
      have kj63_18 : ∀ (x16 : Nat) (x17 : Int32) (h18 : zH), j63_18 x16 x17 h18 = some (ro_, ho_) → zq_wp sc (d + 1) 172 63 [some (.ref x16), none, none, none, some (.int x17)] [] h18 (some (.int ro_), ho_) := by
        intro x16 x17 h18 hf
        rw [hjj63_18] at hf
        refine zq_wg 1 (pc' := 64) (lv' := [some (.ref x16), none, none, none, some (.int x17)]) (st' := [.ref x16]) (h' := h18) rfl ?_
        obtain ⟨v19, e20, hf⟩ := zo_b_s hf
        refine zr_gI rfl rfl (by decide) rfl e20 ?_
        refine zr_if (v19 ≤ 0) 74 70 (st' := []) rfl rfl (fun b21 => ?_) (fun b21 => ?_)
        · have hf := zo_t hf b21
          refine zq_wg 1 (pc' := 76) (lv' := [some (.ref x16), none, none, none, some (.int x17)]) (st' := [.int x17]) (h' := h18) rfl ?_
          exact zr_ri rfl rfl rfl hf
        · have hf := zo_f hf b21
          refine zq_wg 2 (pc' := 76) (lv' := [some (.ref x16), none, none, none, some (.int x17)]) (st' := [.int (0 : Int32)]) (h' := h18) rfl ?_
          exact zr_ri rfl rfl rfl hf
      refine zr_if (v14 = 0) 46 63 (st' := []) rfl rfl (fun b22 => ?_) (fun b22 => ?_)
      · have hf := zo_t hf b22
        refine zq_wg 5 (pc' := 52) (lv' := [some (.ref x10), none, none, some (.int x11), some (.int x12)]) (st' := [.int (x11 - (1 : Int32)), .int (0 : Int32), .int x12]) (h' := h13) rfl ?_
        obtain ⟨v24, h23, e25, hf⟩ := zo_c_s hf
        refine zr_cs zq_m173 [.int x12, .int (0 : Int32), .int (x11 - (1 : Int32))] [] rfl rfl (by decide) rfl rfl rfl (Nat.le_of_ble_eq_true rfl) (Nat.le_of_ble_eq_true rfl) (zm_within_ok sc d (by omega) e25) ?_
        refine zq_wg 0 (pc' := 55) (lv' := [some (.ref x10), none, none, some (.int x11), some (.int x12)]) (st' := [.int v24]) (h' := h23) rfl ?_
        refine zr_if (v24 = 0) 58 63 (st' := []) rfl rfl (fun b26 => ?_) (fun b26 => ?_)
        · have hf := zo_t hf b26
          refine zq_wg 2 (pc' := 60) (lv' := [some (.ref x10), none, none, some (.int x11), some (.int x12)]) (st' := [.int (2 : Int32), .ref x10]) (h' := h23) rfl ?_
          obtain ⟨e30, w28, h27, e29, hf⟩ := zo_v_s hf
          refine zr_cv zq_m162 [.int (2 : Int32)] [] rfl rfl rfl rfl rfl (Nat.le_of_ble_eq_true rfl) (Nat.le_of_ble_eq_true rfl) e30 (zm_wrong_ok sc d (by omega) e29) ?_
          refine zq_wg 0 (pc' := 63) (lv' := [some (.ref x10), none, none, some (.int x11), some (.int x12)]) (st' := []) (h' := h27) rfl ?_
          refine zq_fg [some (.ref x10), none, none, none, some (.int x12)] (zq_lvle_s (zq_lvle_s (zq_lvle_s (zq_lvle_n (zq_lvle_s zq_lvle_nil))))) ?_
          exact kj63_18 x10 x12 h27 hf
        · have hf := zo_f hf b26
          refine zq_fg [some (.ref x10), none, none, none, some (.int x12)] (zq_lvle_s (zq_lvle_s (zq_lvle_s (zq_lvle_n (zq_lvle_s zq_lvle_nil))))) ?_
          exact kj63_18 x10 x12 h23 hf
      · have hf := zo_f hf b22
        refine zq_fg [some (.ref x10), none, none, none, some (.int x12)] (zq_lvle_s (zq_lvle_s (zq_lvle_s (zq_lvle_n (zq_lvle_s zq_lvle_nil))))) ?_
        exact kj63_18 x10 x12 h13 hf
    refine zr_if (v8 ≤ 0) 30 26 (st' := []) rfl rfl (fun b31 => ?_) (fun b31 => ?_)
    · have hf := zo_t hf b31
      refine zq_wg 2 (pc' := 32) (lv' := [some (.ref x3), some (.int x4), some (.int x5), some (.int x6), none]) (st' := [.int x4, .ref x3]) (h' := h7) rfl ?_
      obtain ⟨e35, v33, h32, e34, hf⟩ := zo_v_s hf
      refine zr_cv zq_m166 [.int x4] [] rfl rfl rfl rfl rfl (Nat.le_of_ble_eq_true rfl) (Nat.le_of_ble_eq_true rfl) e35 (zm_find_ok sc d (by omega) e34) ?_
      refine zq_wg 0 (pc' := 35) (lv' := [some (.ref x3), some (.int x4), some (.int x5), some (.int x6), none]) (st' := [.int v33]) (h' := h32) rfl ?_
      refine zq_wg 2 (pc' := 37) (lv' := [some (.ref x3), some (.int x4), some (.int x5), some (.int x6), none]) (st' := [.int (v33 - x5)]) (h' := h32) rfl ?_
      refine zq_fg [some (.ref x3), none, none, some (.int x6), none] (zq_lvle_s (zq_lvle_n (zq_lvle_n (zq_lvle_s (zq_lvle_s zq_lvle_nil))))) ?_
      exact kj37_13 x3 x6 (v33 - x5) h32 hf
    · have hf := zo_f hf b31
      refine zq_wg 2 (pc' := 37) (lv' := [some (.ref x3), some (.int x4), some (.int x5), some (.int x6), none]) (st' := [.int (-1 : Int32)]) (h' := h7) rfl ?_
      refine zq_fg [some (.ref x3), none, none, some (.int x6), none] (zq_lvle_s (zq_lvle_n (zq_lvle_n (zq_lvle_s (zq_lvle_s zq_lvle_nil))))) ?_
      exact kj37_13 x3 x6 (-1 : Int32) h7 hf
  refine zr_if (v1 = 0) 7 19 (st' := []) rfl rfl (fun b36 => ?_) (fun b36 => ?_)
  · have hf := zo_t hf b36
    refine zq_wg 1 (pc' := 8) (lv' := [some (.ref a0), some (.int a1), some (.int a2), some (.int a3), none]) (st' := [.ref a0]) (h' := h) rfl ?_
    obtain ⟨e40, v38, h37, e39, hf⟩ := zo_v_s hf
    refine zr_cv zq_m164 [] [] rfl rfl rfl rfl rfl (Nat.le_of_ble_eq_true rfl) (Nat.le_of_ble_eq_true rfl) e40 (zm_isName_ok sc d (by omega) e39) ?_
    refine zq_wg 0 (pc' := 11) (lv' := [some (.ref a0), some (.int a1), some (.int a2), some (.int a3), none]) (st' := [.int v38]) (h' := h37) rfl ?_
    refine zr_if (v38 = 0) 14 19 (st' := []) rfl rfl (fun b41 => ?_) (fun b41 => ?_)
    · have hf := zo_t hf b41
      refine zq_wg 2 (pc' := 16) (lv' := [some (.ref a0), some (.int a1), some (.int a2), some (.int a3), none]) (st' := [.int (1 : Int32), .ref a0]) (h' := h37) rfl ?_
      obtain ⟨e45, w43, h42, e44, hf⟩ := zo_v_s hf
      refine zr_cv zq_m162 [.int (1 : Int32)] [] rfl rfl rfl rfl rfl (Nat.le_of_ble_eq_true rfl) (Nat.le_of_ble_eq_true rfl) e45 (zm_wrong_ok sc d (by omega) e44) ?_
      refine zq_wg 0 (pc' := 19) (lv' := [some (.ref a0), some (.int a1), some (.int a2), some (.int a3), none]) (st' := []) (h' := h42) rfl ?_
      exact kj19_7 a0 a1 a2 a3 h42 hf
    · have hf := zo_f hf b41
      exact kj19_7 a0 a1 a2 a3 h37 hf
  · have hf := zo_f hf b36
    exact kj19_7 a0 a1 a2 a3 h hf
set_option maxRecDepth 4000 in
def zm_readPost (sc : zX) (a0 : Nat) (h : zH) : Option (Unit × zH) := zo_b (zo_gR h 10 a0 10) (fun v1 => zo_b (zq_rdI sc h v1 (50 : Int32)) (fun v3 => if v3 = (6 : Int32) then (zo_v h a0 10 (zm_wrong sc a0 (5 : Int32) h) (fun w7 h6 => some ((), h6))) else (zo_v h a0 10 (zm_readName sc a0 v3 h) (fun w11 h10 => zo_b (zo_gR h10 10 a0 10) (fun v14 => zo_v h10 a0 10 (zm_takeOne sc a0 (22 : Int32) (4 : Int32) h10) (fun v17 h16 => zo_b (zq_wrX 1 h16 v14 ((60 : Int32) + ((3 : Int32) * v3)) v17) (fun h20 => zo_b (zo_gR h20 10 a0 10) (fun v22 => zo_v h20 a0 10 (zm_takeAfter sc a0 (1 : Int32) (1 : Int32) (9 : Int32) h20) (fun v25 h24 => zo_b (zq_wrX 1 h24 v22 (((60 : Int32) + ((3 : Int32) * v3)) + (1 : Int32)) v25) (fun h28 => zo_b (zo_gR h28 10 a0 10) (fun v30 => zo_b (zq_wrX 1 h28 v30 (((60 : Int32) + ((3 : Int32) * v3)) + (2 : Int32)) (-1 : Int32)) (fun h32 => zo_v h32 a0 10 (zm_hasWord sc a0 (2 : Int32) h32) (fun v35 h34 => zo_l (fun (x38 : Nat) (h39 : zH) => zo_b (zo_gR h39 10 x38 10) (fun v40 => zo_b (zq_rdI sc h39 v40 (50 : Int32)) (fun v42 => zo_b (zq_wrX 1 h39 v40 (50 : Int32) (v42 + (1 : Int32))) (fun h44 => some ((), h44))))) (fun j134_39 => if v35 = 0 then (j134_39 a0 h34) else (zo_v h34 a0 10 (zm_toldHere sc a0 (1 : Int32) (0 : Int32) (6 : Int32) h34) (fun v48 h47 => zo_b (zo_gI h47 10 a0 8) (fun v51 => zo_l (fun (x53 : Nat) (x54 : Int32) (x55 : Int32) (h56 : zH) => zo_b (zo_gI h56 10 x53 7) (fun v57 => zo_b (zo_gI h56 10 x53 8) (fun v59 => zo_l (if v59 ≤ 0 then (1 : Int32) else (0 : Int32)) (fun (x61 : Int32) => zo_b (zo_pI h56 10 x53 7 (v57 + x61)) (fun h62 => zo_b (zo_gR h62 10 x53 10) (fun v64 => zo_b (zq_wrX 1 h62 v64 (x54 + (2 : Int32)) x55) (fun h66 => j134_39 x53 h66))))))) (fun j104_56 => if v51 = 0 then (if v48 = v3 then (zo_v h47 a0 10 (zm_wrong sc a0 (2 : Int32) h47) (fun w72 h71 => j104_56 a0 ((60 : Int32) + ((3 : Int32) * v3)) v48 h71)) else (j104_56 a0 ((60 : Int32) + ((3 : Int32) * v3)) v48 h47)) else (j104_56 a0 ((60 : Int32) + ((3 : Int32) * v3)) v48 h47)))))))))))))))))))
set_option maxRecDepth 4000 in
theorem zm_readPost_ok (sc : zX) (d : Nat) (hd : 4 ≤ d) {a0 : Nat} {h : zH} {ro_ : Unit} {ho_ : zH} (hf : zm_readPost sc a0 h = some (ro_, ho_)) : zq_wm sc d 161 [.ref a0] h (none, ho_) := by
  unfold zm_readPost at hf
  obtain ⟨d, rfl⟩ : ∃ d', d = d' + 1 := ⟨d - 1, by omega⟩
  have hd : 3 ≤ d := by omega
  show zq_wp sc (d + 1) 161 0 [some (.ref a0), none, none, none] [] h _
  refine zq_wg 1 (pc' := 1) (lv' := [some (.ref a0), none, none, none]) (st' := [.ref a0]) (h' := h) rfl ?_
  obtain ⟨v1, e2, hf⟩ := zo_b_s hf
  refine zr_gR rfl rfl (by decide) rfl e2 ?_
  refine zq_wg 1 (pc' := 6) (lv' := [some (.ref a0), none, none, none]) (st' := [.int (50 : Int32), .ref v1]) (h' := h) rfl ?_
  obtain ⟨v3, e4, hf⟩ := zo_b_s hf
  refine zr_iald rfl e4 ?_
  refine zq_wg 3 (pc' := 11) (lv' := [some (.ref a0), some (.int v3), none, none]) (st' := [.int (6 : Int32), .int v3]) (h' := h) rfl ?_
  refine zr_if (v3 = (6 : Int32)) 14 20 (st' := []) rfl rfl (fun b5 => ?_) (fun b5 => ?_)
  · have hf := zo_t hf b5
    refine zq_wg 2 (pc' := 16) (lv' := [some (.ref a0), some (.int v3), none, none]) (st' := [.int (5 : Int32), .ref a0]) (h' := h) rfl ?_
    obtain ⟨e9, w7, h6, e8, hf⟩ := zo_v_s hf
    refine zr_cv zq_m162 [.int (5 : Int32)] [] rfl rfl rfl rfl rfl (Nat.le_of_ble_eq_true rfl) (Nat.le_of_ble_eq_true rfl) e9 (zm_wrong_ok sc d (by omega) e8) ?_
    refine zq_wg 0 (pc' := 19) (lv' := [some (.ref a0), some (.int v3), none, none]) (st' := []) (h' := h6) rfl ?_
    exact zr_rv rfl rfl hf
  · have hf := zo_f hf b5
    refine zq_wg 2 (pc' := 22) (lv' := [some (.ref a0), some (.int v3), none, none]) (st' := [.int v3, .ref a0]) (h' := h) rfl ?_
    obtain ⟨e13, w11, h10, e12, hf⟩ := zo_v_s hf
    refine zr_cv zq_m163 [.int v3] [] rfl rfl rfl rfl rfl (Nat.le_of_ble_eq_true rfl) (Nat.le_of_ble_eq_true rfl) e13 (zm_readName_ok sc d (by omega) e12) ?_
    refine zq_wg 0 (pc' := 25) (lv' := [some (.ref a0), some (.int v3), none, none]) (st' := []) (h' := h10) rfl ?_
    refine zq_wg 7 (pc' := 33) (lv' := [some (.ref a0), some (.int v3), some (.int ((60 : Int32) + ((3 : Int32) * v3))), none]) (st' := [.ref a0]) (h' := h10) rfl ?_
    obtain ⟨v14, e15, hf⟩ := zo_b_s hf
    refine zr_gR rfl rfl (by decide) rfl e15 ?_
    refine zq_wg 4 (pc' := 41) (lv' := [some (.ref a0), some (.int v3), some (.int ((60 : Int32) + ((3 : Int32) * v3))), none]) (st' := [.int (4 : Int32), .int (22 : Int32), .ref a0, .int ((60 : Int32) + ((3 : Int32) * v3)), .ref v14]) (h' := h10) rfl ?_
    obtain ⟨e19, v17, h16, e18, hf⟩ := zo_v_s hf
    refine zr_cv zq_m167 [.int (22 : Int32), .int (4 : Int32)] [.int ((60 : Int32) + ((3 : Int32) * v3)), .ref v14] rfl rfl rfl rfl rfl (Nat.le_of_ble_eq_true rfl) (Nat.le_of_ble_eq_true rfl) e19 (zm_takeOne_ok sc d (by omega) e18) ?_
    refine zq_wg 0 (pc' := 44) (lv' := [some (.ref a0), some (.int v3), some (.int ((60 : Int32) + ((3 : Int32) * v3))), none]) (st' := [.int v17, .int ((60 : Int32) + ((3 : Int32) * v3)), .ref v14]) (h' := h16) rfl ?_
    obtain ⟨h20, e21, hf⟩ := zo_b_s hf
    refine zr_iast rfl e21 ?_
    refine zq_wg 1 (pc' := 46) (lv' := [some (.ref a0), some (.int v3), some (.int ((60 : Int32) + ((3 : Int32) * v3))), none]) (st' := [.ref a0]) (h' := h20) rfl ?_
    obtain ⟨v22, e23, hf⟩ := zo_b_s hf
    refine zr_gR rfl rfl (by decide) rfl e23 ?_
    refine zq_wg 7 (pc' := 57) (lv' := [some (.ref a0), some (.int v3), some (.int ((60 : Int32) + ((3 : Int32) * v3))), none]) (st' := [.int (9 : Int32), .int (1 : Int32), .int (1 : Int32), .ref a0, .int (((60 : Int32) + ((3 : Int32) * v3)) + (1 : Int32)), .ref v22]) (h' := h20) rfl ?_
    obtain ⟨e27, v25, h24, e26, hf⟩ := zo_v_s hf
    refine zr_cv zq_m168 [.int (1 : Int32), .int (1 : Int32), .int (9 : Int32)] [.int (((60 : Int32) + ((3 : Int32) * v3)) + (1 : Int32)), .ref v22] rfl rfl rfl rfl rfl (Nat.le_of_ble_eq_true rfl) (Nat.le_of_ble_eq_true rfl) e27 (zm_takeAfter_ok sc d (by omega) e26) ?_
    refine zq_wg 0 (pc' := 60) (lv' := [some (.ref a0), some (.int v3), some (.int ((60 : Int32) + ((3 : Int32) * v3))), none]) (st' := [.int v25, .int (((60 : Int32) + ((3 : Int32) * v3)) + (1 : Int32)), .ref v22]) (h' := h24) rfl ?_
    obtain ⟨h28, e29, hf⟩ := zo_b_s hf
    refine zr_iast rfl e29 ?_
    refine zq_wg 1 (pc' := 62) (lv' := [some (.ref a0), some (.int v3), some (.int ((60 : Int32) + ((3 : Int32) * v3))), none]) (st' := [.ref a0]) (h' := h28) rfl ?_
    obtain ⟨v30, e31, hf⟩ := zo_b_s hf
    refine zr_gR rfl rfl (by decide) rfl e31 ?_
    refine zq_wg 4 (pc' := 69) (lv' := [some (.ref a0), some (.int v3), some (.int ((60 : Int32) + ((3 : Int32) * v3))), none]) (st' := [.int (-1 : Int32), .int (((60 : Int32) + ((3 : Int32) * v3)) + (2 : Int32)), .ref v30]) (h' := h28) rfl ?_
    obtain ⟨h32, e33, hf⟩ := zo_b_s hf
    refine zr_iast rfl e33 ?_
    refine zq_wg 2 (pc' := 72) (lv' := [some (.ref a0), some (.int v3), some (.int ((60 : Int32) + ((3 : Int32) * v3))), none]) (st' := [.int (2 : Int32), .ref a0]) (h' := h32) rfl ?_
    obtain ⟨e37, v35, h34, e36, hf⟩ := zo_v_s hf
    refine zr_cv zq_m170 [.int (2 : Int32)] [] rfl rfl rfl rfl rfl (Nat.le_of_ble_eq_true rfl) (Nat.le_of_ble_eq_true rfl) e37 (zm_hasWord_ok sc d (by omega) e36) ?_
    refine zq_wg 0 (pc' := 75) (lv' := [some (.ref a0), some (.int v3), some (.int ((60 : Int32) + ((3 : Int32) * v3))), none]) (st' := [.int v35]) (h' := h34) rfl ?_
    obtain ⟨j134_39, hjj134_39, hf⟩ := zo_lj hf
    have kj134_39 : ∀ (x38 : Nat) (h39 : zH), j134_39 x38 h39 = some (ro_, ho_) → zq_wp sc (d + 1) 161 134 [some (.ref x38), none, none, none] [] h39 (none, ho_) := by
      intro x38 h39 hf
      rw [hjj134_39] at hf
      refine zq_wg 1 (pc' := 135) (lv' := [some (.ref x38), none, none, none]) (st' := [.ref x38]) (h' := h39) rfl ?_
      obtain ⟨v40, e41, hf⟩ := zo_b_s hf
      refine zr_gR rfl rfl (by decide) rfl e41 ?_
      refine zq_wg 2 (pc' := 141) (lv' := [some (.ref x38), none, none, none]) (st' := [.int (50 : Int32), .ref v40, .int (50 : Int32), .ref v40]) (h' := h39) rfl ?_
      obtain ⟨v42, e43, hf⟩ := zo_b_s hf
      refine zr_iald rfl e43 ?_
      refine zq_wg 2 (pc' := 144) (lv' := [some (.ref x38), none, none, none]) (st' := [.int (v42 + (1 : Int32)), .int (50 : Int32), .ref v40]) (h' := h39) rfl ?_
      obtain ⟨h44, e45, hf⟩ := zo_b_s hf
      refine zr_iast rfl e45 ?_
      exact zr_rv rfl rfl hf
    refine zr_if (v35 = 0) 134 78 (st' := []) rfl rfl (fun b46 => ?_) (fun b46 => ?_)
    · have hf := zo_t hf b46
      refine zq_fg [some (.ref a0), none, none, none] (zq_lvle_s (zq_lvle_n (zq_lvle_n (zq_lvle_s zq_lvle_nil)))) ?_
      exact kj134_39 a0 h34 hf
    · have hf := zo_f hf b46
      refine zq_wg 4 (pc' := 83) (lv' := [some (.ref a0), some (.int v3), some (.int ((60 : Int32) + ((3 : Int32) * v3))), none]) (st' := [.int (6 : Int32), .int (0 : Int32), .int (1 : Int32), .ref a0]) (h' := h34) rfl ?_
      obtain ⟨e50, v48, h47, e49, hf⟩ := zo_v_s hf
      refine zr_cv zq_m172 [.int (1 : Int32), .int (0 : Int32), .int (6 : Int32)] [] rfl rfl rfl rfl rfl (Nat.le_of_ble_eq_true rfl) (Nat.le_of_ble_eq_true rfl) e50 (zm_toldHere_ok sc d (by omega) e49) ?_
      refine zq_wg 0 (pc' := 86) (lv' := [some (.ref a0), some (.int v3), some (.int ((60 : Int32) + ((3 : Int32) * v3))), none]) (st' := [.int v48]) (h' := h47) rfl ?_
      refine zq_wg 2 (pc' := 88) (lv' := [some (.ref a0), some (.int v3), some (.int ((60 : Int32) + ((3 : Int32) * v3))), some (.int v48)]) (st' := [.ref a0]) (h' := h47) rfl ?_
      obtain ⟨v51, e52, hf⟩ := zo_b_s hf
      refine zr_gI rfl rfl (by decide) rfl e52 ?_
      obtain ⟨j104_56, hjj104_56, hf⟩ := zo_lj hf
      have kj104_56 : ∀ (x53 : Nat) (x54 : Int32) (x55 : Int32) (h56 : zH), j104_56 x53 x54 x55 h56 = some (ro_, ho_) → zq_wp sc (d + 1) 161 104 [some (.ref x53), none, some (.int x54), some (.int x55)] [] h56 (none, ho_) := by
        intro x53 x54 x55 h56 hf
        rw [hjj104_56] at hf
        refine zq_wg 2 (pc' := 106) (lv' := [some (.ref x53), none, some (.int x54), some (.int x55)]) (st' := [.ref x53, .ref x53]) (h' := h56) rfl ?_
        obtain ⟨v57, e58, hf⟩ := zo_b_s hf
        refine zr_gI rfl rfl (by decide) rfl e58 ?_
        refine zq_wg 1 (pc' := 110) (lv' := [some (.ref x53), none, some (.int x54), some (.int x55)]) (st' := [.ref x53, .int v57, .ref x53]) (h' := h56) rfl ?_
        obtain ⟨v59, e60, hf⟩ := zo_b_s hf
        refine zr_gI rfl rfl (by decide) rfl e60 ?_
        obtain ⟨g121_61, hg121_61, hf⟩ := zo_lx hf
        have kg121_61 : ∀ (x61 : Int32), g121_61 x61 = some (ro_, ho_) → zq_wp sc (d + 1) 161 121 [some (.ref x53), none, some (.int x54), some (.int x55)] [.int x61, .int v57, .ref x53] h56 (none, ho_) := by
          intro x61 hf
          rw [hg121_61] at hf
          refine zq_wg 1 (pc' := 122) (lv' := [some (.ref x53), none, some (.int x54), some (.int x55)]) (st' := [.int (v57 + x61), .ref x53]) (h' := h56) rfl ?_
          obtain ⟨h62, e63, hf⟩ := zo_b_s hf
          refine zr_pI rfl rfl (by decide) rfl rfl e63 ?_
          refine zq_wg 1 (pc' := 126) (lv' := [some (.ref x53), none, some (.int x54), some (.int x55)]) (st' := [.ref x53]) (h' := h62) rfl ?_
          obtain ⟨v64, e65, hf⟩ := zo_b_s hf
          refine zr_gR rfl rfl (by decide) rfl e65 ?_
          refine zq_wg 4 (pc' := 133) (lv' := [some (.ref x53), none, some (.int x54), some (.int x55)]) (st' := [.int x55, .int (x54 + (2 : Int32)), .ref v64]) (h' := h62) rfl ?_
          obtain ⟨h66, e67, hf⟩ := zo_b_s hf
          refine zr_iast rfl e67 ?_
          refine zq_fg [some (.ref x53), none, none, none] (zq_lvle_s (zq_lvle_s (zq_lvle_n (zq_lvle_n zq_lvle_nil)))) ?_
          exact kj134_39 x53 h66 hf
        refine zr_if (v59 ≤ 0) 120 116 (st' := [.int v57, .ref x53]) rfl rfl (fun b68 => ?_) (fun b68 => ?_)
        · have hf := zo_lt hf b68
          refine zq_wg 1 (pc' := 121) (lv' := [some (.ref x53), none, some (.int x54), some (.int x55)]) (st' := [.int (1 : Int32), .int v57, .ref x53]) (h' := h56) rfl ?_
          exact kg121_61 _ hf
        · have hf := zo_lf hf b68
          refine zq_wg 2 (pc' := 121) (lv' := [some (.ref x53), none, some (.int x54), some (.int x55)]) (st' := [.int (0 : Int32), .int v57, .ref x53]) (h' := h56) rfl ?_
          exact kg121_61 _ hf
      refine zr_if (v51 = 0) 94 104 (st' := []) rfl rfl (fun b69 => ?_) (fun b69 => ?_)
      · have hf := zo_t hf b69
        refine zq_wg 2 (pc' := 96) (lv' := [some (.ref a0), some (.int v3), some (.int ((60 : Int32) + ((3 : Int32) * v3))), some (.int v48)]) (st' := [.int v3, .int v48]) (h' := h47) rfl ?_
        refine zr_if (v48 = v3) 99 104 (st' := []) rfl rfl (fun b70 => ?_) (fun b70 => ?_)
        · have hf := zo_t hf b70
          refine zq_wg 2 (pc' := 101) (lv' := [some (.ref a0), some (.int v3), some (.int ((60 : Int32) + ((3 : Int32) * v3))), some (.int v48)]) (st' := [.int (2 : Int32), .ref a0]) (h' := h47) rfl ?_
          obtain ⟨e74, w72, h71, e73, hf⟩ := zo_v_s hf
          refine zr_cv zq_m162 [.int (2 : Int32)] [] rfl rfl rfl rfl rfl (Nat.le_of_ble_eq_true rfl) (Nat.le_of_ble_eq_true rfl) e74 (zm_wrong_ok sc d (by omega) e73) ?_
          refine zq_wg 0 (pc' := 104) (lv' := [some (.ref a0), some (.int v3), some (.int ((60 : Int32) + ((3 : Int32) * v3))), some (.int v48)]) (st' := []) (h' := h71) rfl ?_
          refine zq_fg [some (.ref a0), none, some (.int ((60 : Int32) + ((3 : Int32) * v3))), some (.int v48)] (zq_lvle_s (zq_lvle_n (zq_lvle_s (zq_lvle_s zq_lvle_nil)))) ?_
          exact kj104_56 a0 ((60 : Int32) + ((3 : Int32) * v3)) v48 h71 hf
        · have hf := zo_f hf b70
          refine zq_fg [some (.ref a0), none, some (.int ((60 : Int32) + ((3 : Int32) * v3))), some (.int v48)] (zq_lvle_s (zq_lvle_n (zq_lvle_s (zq_lvle_s zq_lvle_nil)))) ?_
          exact kj104_56 a0 ((60 : Int32) + ((3 : Int32) * v3)) v48 h47 hf
      · have hf := zo_f hf b69
        refine zq_fg [some (.ref a0), none, some (.int ((60 : Int32) + ((3 : Int32) * v3))), some (.int v48)] (zq_lvle_s (zq_lvle_n (zq_lvle_s (zq_lvle_s zq_lvle_nil)))) ?_
        exact kj104_56 a0 ((60 : Int32) + ((3 : Int32) * v3)) v48 h47 hf
set_option maxRecDepth 4000 in
def zm_readMan (sc : zX) (a0 : Nat) (h : zH) : Option (Unit × zH) := zo_b (zo_gR h 10 a0 10) (fun v1 => zo_b (zq_rdI sc h v1 (51 : Int32)) (fun v3 => if v3 = (6 : Int32) then (zo_v h a0 10 (zm_wrong sc a0 (5 : Int32) h) (fun w7 h6 => some ((), h6))) else (zo_v h a0 10 (zm_readName sc a0 ((20 : Int32) + v3) h) (fun w11 h10 => zo_b (zo_gR h10 10 a0 10) (fun v14 => zo_v h10 a0 10 (zm_takeAfter sc a0 (4 : Int32) (0 : Int32) (9 : Int32) h10) (fun v17 h16 => zo_b (zq_wrX 1 h16 v14 ((78 : Int32) + ((3 : Int32) * v3)) v17) (fun h20 => zo_b (zo_gR h20 10 a0 10) (fun v22 => zo_v h20 a0 10 (zm_takeAfter sc a0 (5 : Int32) (0 : Int32) (9 : Int32) h20) (fun v25 h24 => zo_b (zq_wrX 1 h24 v22 (((78 : Int32) + ((3 : Int32) * v3)) + (1 : Int32)) v25) (fun h28 => zo_b (zo_gR h28 10 a0 10) (fun v30 => zo_v h28 a0 10 (zm_takeAfter sc a0 (6 : Int32) (0 : Int32) (999 : Int32) h28) (fun v33 h32 => zo_b (zq_wrX 1 h32 v30 (((78 : Int32) + ((3 : Int32) * v3)) + (2 : Int32)) v33) (fun h36 => zo_b (zo_gR h36 10 a0 10) (fun v38 => zo_b (zq_rdI sc h36 v38 (51 : Int32)) (fun v40 => zo_b (zq_wrX 1 h36 v38 (51 : Int32) (v40 + (1 : Int32))) (fun h42 => some ((), h42)))))))))))))))))
set_option maxRecDepth 4000 in
theorem zm_readMan_ok (sc : zX) (d : Nat) (hd : 4 ≤ d) {a0 : Nat} {h : zH} {ro_ : Unit} {ho_ : zH} (hf : zm_readMan sc a0 h = some (ro_, ho_)) : zq_wm sc d 174 [.ref a0] h (none, ho_) := by
  unfold zm_readMan at hf
  obtain ⟨d, rfl⟩ : ∃ d', d = d' + 1 := ⟨d - 1, by omega⟩
  have hd : 3 ≤ d := by omega
  show zq_wp sc (d + 1) 174 0 [some (.ref a0), none, none] [] h _
  refine zq_wg 1 (pc' := 1) (lv' := [some (.ref a0), none, none]) (st' := [.ref a0]) (h' := h) rfl ?_
  obtain ⟨v1, e2, hf⟩ := zo_b_s hf
  refine zr_gR rfl rfl (by decide) rfl e2 ?_
  refine zq_wg 1 (pc' := 6) (lv' := [some (.ref a0), none, none]) (st' := [.int (51 : Int32), .ref v1]) (h' := h) rfl ?_
  obtain ⟨v3, e4, hf⟩ := zo_b_s hf
  refine zr_iald rfl e4 ?_
  refine zq_wg 3 (pc' := 11) (lv' := [some (.ref a0), some (.int v3), none]) (st' := [.int (6 : Int32), .int v3]) (h' := h) rfl ?_
  refine zr_if (v3 = (6 : Int32)) 14 20 (st' := []) rfl rfl (fun b5 => ?_) (fun b5 => ?_)
  · have hf := zo_t hf b5
    refine zq_wg 2 (pc' := 16) (lv' := [some (.ref a0), some (.int v3), none]) (st' := [.int (5 : Int32), .ref a0]) (h' := h) rfl ?_
    obtain ⟨e9, w7, h6, e8, hf⟩ := zo_v_s hf
    refine zr_cv zq_m162 [.int (5 : Int32)] [] rfl rfl rfl rfl rfl (Nat.le_of_ble_eq_true rfl) (Nat.le_of_ble_eq_true rfl) e9 (zm_wrong_ok sc d (by omega) e8) ?_
    refine zq_wg 0 (pc' := 19) (lv' := [some (.ref a0), some (.int v3), none]) (st' := []) (h' := h6) rfl ?_
    exact zr_rv rfl rfl hf
  · have hf := zo_f hf b5
    refine zq_wg 4 (pc' := 25) (lv' := [some (.ref a0), some (.int v3), none]) (st' := [.int ((20 : Int32) + v3), .ref a0]) (h' := h) rfl ?_
    obtain ⟨e13, w11, h10, e12, hf⟩ := zo_v_s hf
    refine zr_cv zq_m163 [.int ((20 : Int32) + v3)] [] rfl rfl rfl rfl rfl (Nat.le_of_ble_eq_true rfl) (Nat.le_of_ble_eq_true rfl) e13 (zm_readName_ok sc d (by omega) e12) ?_
    refine zq_wg 0 (pc' := 28) (lv' := [some (.ref a0), some (.int v3), none]) (st' := []) (h' := h10) rfl ?_
    refine zq_wg 7 (pc' := 36) (lv' := [some (.ref a0), some (.int v3), some (.int ((78 : Int32) + ((3 : Int32) * v3)))]) (st' := [.ref a0]) (h' := h10) rfl ?_
    obtain ⟨v14, e15, hf⟩ := zo_b_s hf
    refine zr_gR rfl rfl (by decide) rfl e15 ?_
    refine zq_wg 5 (pc' := 45) (lv' := [some (.ref a0), some (.int v3), some (.int ((78 : Int32) + ((3 : Int32) * v3)))]) (st' := [.int (9 : Int32), .int (0 : Int32), .int (4 : Int32), .ref a0, .int ((78 : Int32) + ((3 : Int32) * v3)), .ref v14]) (h' := h10) rfl ?_
    obtain ⟨e19, v17, h16, e18, hf⟩ := zo_v_s hf
    refine zr_cv zq_m168 [.int (4 : Int32), .int (0 : Int32), .int (9 : Int32)] [.int ((78 : Int32) + ((3 : Int32) * v3)), .ref v14] rfl rfl rfl rfl rfl (Nat.le_of_ble_eq_true rfl) (Nat.le_of_ble_eq_true rfl) e19 (zm_takeAfter_ok sc d (by omega) e18) ?_
    refine zq_wg 0 (pc' := 48) (lv' := [some (.ref a0), some (.int v3), some (.int ((78 : Int32) + ((3 : Int32) * v3)))]) (st' := [.int v17, .int ((78 : Int32) + ((3 : Int32) * v3)), .ref v14]) (h' := h16) rfl ?_
    obtain ⟨h20, e21, hf⟩ := zo_b_s hf
    refine zr_iast rfl e21 ?_
    refine zq_wg 1 (pc' := 50) (lv' := [some (.ref a0), some (.int v3), some (.int ((78 : Int32) + ((3 : Int32) * v3)))]) (st' := [.ref a0]) (h' := h20) rfl ?_
    obtain ⟨v22, e23, hf⟩ := zo_b_s hf
    refine zr_gR rfl rfl (by decide) rfl e23 ?_
    refine zq_wg 7 (pc' := 61) (lv' := [some (.ref a0), some (.int v3), some (.int ((78 : Int32) + ((3 : Int32) * v3)))]) (st' := [.int (9 : Int32), .int (0 : Int32), .int (5 : Int32), .ref a0, .int (((78 : Int32) + ((3 : Int32) * v3)) + (1 : Int32)), .ref v22]) (h' := h20) rfl ?_
    obtain ⟨e27, v25, h24, e26, hf⟩ := zo_v_s hf
    refine zr_cv zq_m168 [.int (5 : Int32), .int (0 : Int32), .int (9 : Int32)] [.int (((78 : Int32) + ((3 : Int32) * v3)) + (1 : Int32)), .ref v22] rfl rfl rfl rfl rfl (Nat.le_of_ble_eq_true rfl) (Nat.le_of_ble_eq_true rfl) e27 (zm_takeAfter_ok sc d (by omega) e26) ?_
    refine zq_wg 0 (pc' := 64) (lv' := [some (.ref a0), some (.int v3), some (.int ((78 : Int32) + ((3 : Int32) * v3)))]) (st' := [.int v25, .int (((78 : Int32) + ((3 : Int32) * v3)) + (1 : Int32)), .ref v22]) (h' := h24) rfl ?_
    obtain ⟨h28, e29, hf⟩ := zo_b_s hf
    refine zr_iast rfl e29 ?_
    refine zq_wg 1 (pc' := 66) (lv' := [some (.ref a0), some (.int v3), some (.int ((78 : Int32) + ((3 : Int32) * v3)))]) (st' := [.ref a0]) (h' := h28) rfl ?_
    obtain ⟨v30, e31, hf⟩ := zo_b_s hf
    refine zr_gR rfl rfl (by decide) rfl e31 ?_
    refine zq_wg 7 (pc' := 79) (lv' := [some (.ref a0), some (.int v3), some (.int ((78 : Int32) + ((3 : Int32) * v3)))]) (st' := [.int (999 : Int32), .int (0 : Int32), .int (6 : Int32), .ref a0, .int (((78 : Int32) + ((3 : Int32) * v3)) + (2 : Int32)), .ref v30]) (h' := h28) rfl ?_
    obtain ⟨e35, v33, h32, e34, hf⟩ := zo_v_s hf
    refine zr_cv zq_m168 [.int (6 : Int32), .int (0 : Int32), .int (999 : Int32)] [.int (((78 : Int32) + ((3 : Int32) * v3)) + (2 : Int32)), .ref v30] rfl rfl rfl rfl rfl (Nat.le_of_ble_eq_true rfl) (Nat.le_of_ble_eq_true rfl) e35 (zm_takeAfter_ok sc d (by omega) e34) ?_
    refine zq_wg 0 (pc' := 82) (lv' := [some (.ref a0), some (.int v3), some (.int ((78 : Int32) + ((3 : Int32) * v3)))]) (st' := [.int v33, .int (((78 : Int32) + ((3 : Int32) * v3)) + (2 : Int32)), .ref v30]) (h' := h32) rfl ?_
    obtain ⟨h36, e37, hf⟩ := zo_b_s hf
    refine zr_iast rfl e37 ?_
    refine zq_wg 1 (pc' := 84) (lv' := [some (.ref a0), some (.int v3), some (.int ((78 : Int32) + ((3 : Int32) * v3)))]) (st' := [.ref a0]) (h' := h36) rfl ?_
    obtain ⟨v38, e39, hf⟩ := zo_b_s hf
    refine zr_gR rfl rfl (by decide) rfl e39 ?_
    refine zq_wg 2 (pc' := 90) (lv' := [some (.ref a0), some (.int v3), some (.int ((78 : Int32) + ((3 : Int32) * v3)))]) (st' := [.int (51 : Int32), .ref v38, .int (51 : Int32), .ref v38]) (h' := h36) rfl ?_
    obtain ⟨v40, e41, hf⟩ := zo_b_s hf
    refine zr_iald rfl e41 ?_
    refine zq_wg 2 (pc' := 93) (lv' := [some (.ref a0), some (.int v3), some (.int ((78 : Int32) + ((3 : Int32) * v3)))]) (st' := [.int (v40 + (1 : Int32)), .int (51 : Int32), .ref v38]) (h' := h36) rfl ?_
    obtain ⟨h42, e43, hf⟩ := zo_b_s hf
    refine zr_iast rfl e43 ?_
    exact zr_rv rfl rfl hf
set_option maxRecDepth 4000 in
def zm_isSign (sc : zX) (a0 : Nat) (a1 : Int32) (h : zH) : Option (Int32 × zH) := zo_b (zo_gI h 10 a0 8) (fun v1 => if v1 = 0 then (zo_b (zo_gR h 10 a0 4) (fun v4 => zo_b (zo_gI h 10 a0 7) (fun v6 => zo_b (zq_rdI sc h v4 v6) (fun v8 => if v8 = (3 : Int32) then (zo_b (zo_gR h 10 a0 6) (fun v11 => zo_b (zo_gI h 10 a0 7) (fun v13 => zo_b (zq_rdL h v11 v13) (fun v15 => if (lg_cmp v15 a1.toInt64) = 0 then (some ((1 : Int32), h)) else (some ((0 : Int32), h)))))) else (some ((0 : Int32), h)))))) else (some ((0 : Int32), h)))
set_option maxRecDepth 4000 in
theorem zm_isSign_ok (sc : zX) (d : Nat) (hd : 0 ≤ d) {a0 : Nat} {a1 : Int32} {h : zH} {ro_ : Int32} {ho_ : zH} (hf : zm_isSign sc a0 a1 h = some (ro_, ho_)) : zq_wm sc d 181 [.ref a0, .int a1] h (some (.int ro_), ho_) := by
  unfold zm_isSign at hf
  show zq_wp sc d 181 0 [some (.ref a0), some (.int a1)] [] h _
  refine zq_wg 1 (pc' := 1) (lv' := [some (.ref a0), some (.int a1)]) (st' := [.ref a0]) (h' := h) rfl ?_
  obtain ⟨v1, e2, hf⟩ := zo_b_s hf
  refine zr_gI rfl rfl (by decide) rfl e2 ?_
  refine zr_if (v1 = 0) 7 39 (st' := []) rfl rfl (fun b3 => ?_) (fun b3 => ?_)
  · have hf := zo_t hf b3
    refine zq_wg 1 (pc' := 8) (lv' := [some (.ref a0), some (.int a1)]) (st' := [.ref a0]) (h' := h) rfl ?_
    obtain ⟨v4, e5, hf⟩ := zo_b_s hf
    refine zr_gR rfl rfl (by decide) rfl e5 ?_
    refine zq_wg 1 (pc' := 12) (lv' := [some (.ref a0), some (.int a1)]) (st' := [.ref a0, .ref v4]) (h' := h) rfl ?_
    obtain ⟨v6, e7, hf⟩ := zo_b_s hf
    refine zr_gI rfl rfl (by decide) rfl e7 ?_
    obtain ⟨v8, e9, hf⟩ := zo_b_s hf
    refine zr_iald rfl e9 ?_
    refine zq_wg 1 (pc' := 17) (lv' := [some (.ref a0), some (.int a1)]) (st' := [.int (3 : Int32), .int v8]) (h' := h) rfl ?_
    refine zr_if (v8 = (3 : Int32)) 20 39 (st' := []) rfl rfl (fun b10 => ?_) (fun b10 => ?_)
    · have hf := zo_t hf b10
      refine zq_wg 1 (pc' := 21) (lv' := [some (.ref a0), some (.int a1)]) (st' := [.ref a0]) (h' := h) rfl ?_
      obtain ⟨v11, e12, hf⟩ := zo_b_s hf
      refine zr_gR rfl rfl (by decide) rfl e12 ?_
      refine zq_wg 1 (pc' := 25) (lv' := [some (.ref a0), some (.int a1)]) (st' := [.ref a0, .ref v11]) (h' := h) rfl ?_
      obtain ⟨v13, e14, hf⟩ := zo_b_s hf
      refine zr_gI rfl rfl (by decide) rfl e14 ?_
      obtain ⟨v15, e16, hf⟩ := zo_b_s hf
      refine zr_lald rfl e16 ?_
      refine zq_wg 3 (pc' := 32) (lv' := [some (.ref a0), some (.int a1)]) (st' := [.int (lg_cmp v15 a1.toInt64)]) (h' := h) rfl ?_
      refine zr_if ((lg_cmp v15 a1.toInt64) = 0) 35 39 (st' := []) rfl rfl (fun b17 => ?_) (fun b17 => ?_)
      · have hf := zo_t hf b17
        refine zq_wg 2 (pc' := 40) (lv' := [some (.ref a0), some (.int a1)]) (st' := [.int (1 : Int32)]) (h' := h) rfl ?_
        exact zr_ri rfl rfl rfl hf
      · have hf := zo_f hf b17
        refine zq_wg 1 (pc' := 40) (lv' := [some (.ref a0), some (.int a1)]) (st' := [.int (0 : Int32)]) (h' := h) rfl ?_
        exact zr_ri rfl rfl rfl hf
    · have hf := zo_f hf b10
      refine zq_wg 1 (pc' := 40) (lv' := [some (.ref a0), some (.int a1)]) (st' := [.int (0 : Int32)]) (h' := h) rfl ?_
      exact zr_ri rfl rfl rfl hf
  · have hf := zo_f hf b3
    refine zq_wg 1 (pc' := 40) (lv' := [some (.ref a0), some (.int a1)]) (st' := [.int (0 : Int32)]) (h' := h) rfl ?_
    exact zr_ri rfl rfl rfl hf
set_option maxRecDepth 4000 in
def zm_emit (sc : zX) (a0 : Nat) (a1 : Int32) (a2 : Int32) (h : zH) : Option (Unit × zH) := zo_b (zo_gR h 10 a0 11) (fun v1 => zo_b (zo_gI h 10 a0 13) (fun v3 => zo_b (zq_wrX 1 h v1 ((1100 : Int32) + v3) a1) (fun h5 => zo_b (zo_gR h5 10 a0 12) (fun v7 => zo_b (zo_gI h5 10 a0 13) (fun v9 => zo_b (zq_wrX 1 h5 v7 ((1100 : Int32) + v9) a2) (fun h11 => zo_b (zo_gI h11 10 a0 13) (fun v13 => zo_b (zo_pI h11 10 a0 13 (v13 + (1 : Int32))) (fun h15 => some ((), h15)))))))))
set_option maxRecDepth 4000 in
theorem zm_emit_ok (sc : zX) (d : Nat) (hd : 0 ≤ d) {a0 : Nat} {a1 : Int32} {a2 : Int32} {h : zH} {ro_ : Unit} {ho_ : zH} (hf : zm_emit sc a0 a1 a2 h = some (ro_, ho_)) : zq_wm sc d 182 [.ref a0, .int a1, .int a2] h (none, ho_) := by
  unfold zm_emit at hf
  show zq_wp sc d 182 0 [some (.ref a0), some (.int a1), some (.int a2)] [] h _
  refine zq_wg 1 (pc' := 1) (lv' := [some (.ref a0), some (.int a1), some (.int a2)]) (st' := [.ref a0]) (h' := h) rfl ?_
  obtain ⟨v1, e2, hf⟩ := zo_b_s hf
  refine zr_gR rfl rfl (by decide) rfl e2 ?_
  refine zq_wg 2 (pc' := 8) (lv' := [some (.ref a0), some (.int a1), some (.int a2)]) (st' := [.ref a0, .int (1100 : Int32), .ref v1]) (h' := h) rfl ?_
  obtain ⟨v3, e4, hf⟩ := zo_b_s hf
  refine zr_gI rfl rfl (by decide) rfl e4 ?_
  refine zq_wg 2 (pc' := 13) (lv' := [some (.ref a0), some (.int a1), some (.int a2)]) (st' := [.int a1, .int ((1100 : Int32) + v3), .ref v1]) (h' := h) rfl ?_
  obtain ⟨h5, e6, hf⟩ := zo_b_s hf
  refine zr_iast rfl e6 ?_
  refine zq_wg 1 (pc' := 15) (lv' := [some (.ref a0), some (.int a1), some (.int a2)]) (st' := [.ref a0]) (h' := h5) rfl ?_
  obtain ⟨v7, e8, hf⟩ := zo_b_s hf
  refine zr_gR rfl rfl (by decide) rfl e8 ?_
  refine zq_wg 2 (pc' := 22) (lv' := [some (.ref a0), some (.int a1), some (.int a2)]) (st' := [.ref a0, .int (1100 : Int32), .ref v7]) (h' := h5) rfl ?_
  obtain ⟨v9, e10, hf⟩ := zo_b_s hf
  refine zr_gI rfl rfl (by decide) rfl e10 ?_
  refine zq_wg 2 (pc' := 27) (lv' := [some (.ref a0), some (.int a1), some (.int a2)]) (st' := [.int a2, .int ((1100 : Int32) + v9), .ref v7]) (h' := h5) rfl ?_
  obtain ⟨h11, e12, hf⟩ := zo_b_s hf
  refine zr_iast rfl e12 ?_
  refine zq_wg 2 (pc' := 30) (lv' := [some (.ref a0), some (.int a1), some (.int a2)]) (st' := [.ref a0, .ref a0]) (h' := h11) rfl ?_
  obtain ⟨v13, e14, hf⟩ := zo_b_s hf
  refine zr_gI rfl rfl (by decide) rfl e14 ?_
  refine zq_wg 2 (pc' := 35) (lv' := [some (.ref a0), some (.int a1), some (.int a2)]) (st' := [.int (v13 + (1 : Int32)), .ref a0]) (h' := h11) rfl ?_
  obtain ⟨h15, e16, hf⟩ := zo_b_s hf
  refine zr_pI rfl rfl (by decide) rfl rfl e16 ?_
  exact zr_rv rfl rfl hf
set_option maxRecDepth 4000 in
def zm_hasSign (sc : zX) (a0 : Nat) (a1 : Int32) (h : zH) : Option (Int32 × zH) := zo_v h a0 10 (zm_isSign sc a0 a1 h) (fun v2 h1 => zo_b (zo_gI h1 10 a0 7) (fun v5 => zo_l (if v2 = 0 then (0 : Int32) else (1 : Int32)) (fun (x7 : Int32) => zo_b (zo_pI h1 10 a0 7 (v5 + x7)) (fun h8 => zo_rb v2 h8))))
set_option maxRecDepth 4000 in
theorem zm_hasSign_ok (sc : zX) (d : Nat) (hd : 1 ≤ d) {a0 : Nat} {a1 : Int32} {h : zH} {ro_ : Int32} {ho_ : zH} (hf : zm_hasSign sc a0 a1 h = some (ro_, ho_)) : zq_wm sc d 183 [.ref a0, .int a1] h (some (.int ro_), ho_) := by
  unfold zm_hasSign at hf
  obtain ⟨d, rfl⟩ : ∃ d', d = d' + 1 := ⟨d - 1, by omega⟩
  have hd : 0 ≤ d := by omega
  show zq_wp sc (d + 1) 183 0 [some (.ref a0), some (.int a1), none] [] h _
  refine zq_wg 2 (pc' := 2) (lv' := [some (.ref a0), some (.int a1), none]) (st' := [.int a1, .ref a0]) (h' := h) rfl ?_
  obtain ⟨e4, v2, h1, e3, hf⟩ := zo_v_s hf
  refine zr_cv zq_m181 [.int a1] [] rfl rfl rfl rfl rfl (Nat.le_of_ble_eq_true rfl) (Nat.le_of_ble_eq_true rfl) e4 (zm_isSign_ok sc d (by omega) e3) ?_
  refine zq_wg 0 (pc' := 5) (lv' := [some (.ref a0), some (.int a1), none]) (st' := [.int v2]) (h' := h1) rfl ?_
  refine zq_wg 3 (pc' := 8) (lv' := [some (.ref a0), some (.int a1), some (.int v2)]) (st' := [.ref a0, .ref a0]) (h' := h1) rfl ?_
  obtain ⟨v5, e6, hf⟩ := zo_b_s hf
  refine zr_gI rfl rfl (by decide) rfl e6 ?_
  refine zq_wg 1 (pc' := 12) (lv' := [some (.ref a0), some (.int a1), some (.int v2)]) (st' := [.int v2, .int v5, .ref a0]) (h' := h1) rfl ?_
  obtain ⟨g20_7, hg20_7, hf⟩ := zo_lx hf
  have kg20_7 : ∀ (x7 : Int32), g20_7 x7 = some (ro_, ho_) → zq_wp sc (d + 1) 183 20 [some (.ref a0), some (.int a1), some (.int v2)] [.int x7, .int v5, .ref a0] h1 (some (.int ro_), ho_) := by
    intro x7 hf
    rw [hg20_7] at hf
    refine zq_wg 1 (pc' := 21) (lv' := [some (.ref a0), some (.int a1), some (.int v2)]) (st' := [.int (v5 + x7), .ref a0]) (h' := h1) rfl ?_
    obtain ⟨h8, e9, hf⟩ := zo_b_s hf
    refine zr_pI rfl rfl (by decide) rfl rfl e9 ?_
    refine zq_wg 1 (pc' := 25) (lv' := [some (.ref a0), some (.int a1), some (.int v2)]) (st' := [.int v2]) (h' := h8) rfl ?_
    exact zr_rb rfl rfl hf
  refine zr_if (v2 = 0) 19 15 (st' := [.int v5, .ref a0]) rfl rfl (fun b10 => ?_) (fun b10 => ?_)
  · have hf := zo_lt hf b10
    refine zq_wg 1 (pc' := 20) (lv' := [some (.ref a0), some (.int a1), some (.int v2)]) (st' := [.int (0 : Int32), .int v5, .ref a0]) (h' := h1) rfl ?_
    exact kg20_7 _ hf
  · have hf := zo_lf hf b10
    refine zq_wg 2 (pc' := 20) (lv' := [some (.ref a0), some (.int a1), some (.int v2)]) (st' := [.int (1 : Int32), .int v5, .ref a0]) (h' := h1) rfl ?_
    exact kg20_7 _ hf
set_option maxRecDepth 4000 in
def zm_takeSign (sc : zX) (a0 : Nat) (a1 : Int32) (h : zH) : Option (Unit × zH) := zo_v h a0 10 (zm_isSign sc a0 a1 h) (fun v2 h1 => if v2 = 0 then (zo_v h1 a0 10 (zm_wrong sc a0 (1 : Int32) h1) (fun w7 h6 => some ((), h6))) else (zo_b (zo_gI h1 10 a0 7) (fun v10 => zo_b (zo_pI h1 10 a0 7 (v10 + (1 : Int32))) (fun h12 => some ((), h12)))))
set_option maxRecDepth 4000 in
theorem zm_takeSign_ok (sc : zX) (d : Nat) (hd : 1 ≤ d) {a0 : Nat} {a1 : Int32} {h : zH} {ro_ : Unit} {ho_ : zH} (hf : zm_takeSign sc a0 a1 h = some (ro_, ho_)) : zq_wm sc d 184 [.ref a0, .int a1] h (none, ho_) := by
  unfold zm_takeSign at hf
  obtain ⟨d, rfl⟩ : ∃ d', d = d' + 1 := ⟨d - 1, by omega⟩
  have hd : 0 ≤ d := by omega
  show zq_wp sc (d + 1) 184 0 [some (.ref a0), some (.int a1)] [] h _
  refine zq_wg 2 (pc' := 2) (lv' := [some (.ref a0), some (.int a1)]) (st' := [.int a1, .ref a0]) (h' := h) rfl ?_
  obtain ⟨e4, v2, h1, e3, hf⟩ := zo_v_s hf
  refine zr_cv zq_m181 [.int a1] [] rfl rfl rfl rfl rfl (Nat.le_of_ble_eq_true rfl) (Nat.le_of_ble_eq_true rfl) e4 (zm_isSign_ok sc d (by omega) e3) ?_
  refine zq_wg 0 (pc' := 5) (lv' := [some (.ref a0), some (.int a1)]) (st' := [.int v2]) (h' := h1) rfl ?_
  refine zr_if (v2 = 0) 21 8 (st' := []) rfl rfl (fun b5 => ?_) (fun b5 => ?_)
  · have hf := zo_t hf b5
    refine zq_wg 2 (pc' := 23) (lv' := [some (.ref a0), some (.int a1)]) (st' := [.int (1 : Int32), .ref a0]) (h' := h1) rfl ?_
    obtain ⟨e9, w7, h6, e8, hf⟩ := zo_v_s hf
    refine zr_cv zq_m162 [.int (1 : Int32)] [] rfl rfl rfl rfl rfl (Nat.le_of_ble_eq_true rfl) (Nat.le_of_ble_eq_true rfl) e9 (zm_wrong_ok sc d (by omega) e8) ?_
    refine zq_wg 0 (pc' := 26) (lv' := [some (.ref a0), some (.int a1)]) (st' := []) (h' := h6) rfl ?_
    exact zr_rv rfl rfl hf
  · have hf := zo_f hf b5
    refine zq_wg 2 (pc' := 10) (lv' := [some (.ref a0), some (.int a1)]) (st' := [.ref a0, .ref a0]) (h' := h1) rfl ?_
    obtain ⟨v10, e11, hf⟩ := zo_b_s hf
    refine zr_gI rfl rfl (by decide) rfl e11 ?_
    refine zq_wg 2 (pc' := 15) (lv' := [some (.ref a0), some (.int a1)]) (st' := [.int (v10 + (1 : Int32)), .ref a0]) (h' := h1) rfl ?_
    obtain ⟨h12, e13, hf⟩ := zo_b_s hf
    refine zr_pI rfl rfl (by decide) rfl rfl e13 ?_
    refine zq_wg 1 (pc' := 26) (lv' := [some (.ref a0), some (.int a1)]) (st' := []) (h' := h12) rfl ?_
    exact zr_rv rfl rfl hf
set_option maxRecDepth 4000 in
def zm_all_l5 (sc : zX) (rec : Nat → Nat → Int32 → zH → Option (Unit × zH)) : Nat → Nat → Int32 → zH → Option (Unit × zH)
  | 0, _, _, _ => none
  | n + 1, y5, y6, h7 => zo_v h7 y5 10 (zm_isWord sc y5 (27 : Int32) h7) (fun v9 h8 => zo_l (fun (x12 : Nat) (x13 : Int32) (h14 : zH) => zo_v h14 x12 10 (zm_isWord sc x12 (27 : Int32) h14) (fun v16 h15 => zo_b (zo_gI h15 10 x12 7) (fun v19 => zo_b (zo_pI h15 10 x12 7 (v19 + (1 : Int32))) (fun h21 => zo_v h21 x12 10 (rec 1 x12 x13 h21) (fun w24 h23 => zo_l (if v16 = 0 then (10 : Int32) else (9 : Int32)) (fun (x27 : Int32) => zo_v h23 x12 10 (zm_emit sc x12 x27 (0 : Int32) h23) (fun w29 h28 => zm_all_l5 sc rec n x12 x13 h28 ))))))) (fun j23_14 => if v9 = 0 then (zo_v h8 y5 10 (zm_isWord sc y5 (28 : Int32) h8) (fun v35 h34 => if v35 = 0 then (some ((), h34)) else (j23_14 y5 y6 h34))) else (j23_14 y5 y6 h8)))
set_option maxRecDepth 4000 in
def zm_sums_l5 (sc : zX) (rec : Nat → Nat → Int32 → zH → Option (Unit × zH)) : Nat → Nat → Int32 → zH → Option (Unit × zH)
  | 0, _, _, _ => none
  | n + 1, y5, y6, h7 => zo_v h7 y5 10 (zm_isSign sc y5 (43 : Int32) h7) (fun v9 h8 => zo_l (fun (x12 : Nat) (x13 : Int32) (h14 : zH) => zo_v h14 x12 10 (zm_isSign sc x12 (43 : Int32) h14) (fun v16 h15 => zo_b (zo_gI h15 10 x12 7) (fun v19 => zo_b (zo_pI h15 10 x12 7 (v19 + (1 : Int32))) (fun h21 => zo_v h21 x12 10 (rec 3 x12 x13 h21) (fun w24 h23 => zo_l (if v16 = 0 then (5 : Int32) else (4 : Int32)) (fun (x27 : Int32) => zo_v h23 x12 10 (zm_emit sc x12 x27 (0 : Int32) h23) (fun w29 h28 => zm_sums_l5 sc rec n x12 x13 h28 ))))))) (fun j23_14 => if v9 = 0 then (zo_v h8 y5 10 (zm_isSign sc y5 (45 : Int32) h8) (fun v35 h34 => if v35 = 0 then (some ((), h34)) else (j23_14 y5 y6 h34))) else (j23_14 y5 y6 h8)))
set_option maxRecDepth 4000 in
def zm_products_l5 (sc : zX) (rec : Nat → Nat → Int32 → zH → Option (Unit × zH)) : Nat → Nat → Int32 → zH → Option (Unit × zH)
  | 0, _, _, _ => none
  | n + 1, y5, y6, h7 => zo_v h7 y5 10 (zm_hasSign sc y5 (42 : Int32) h7) (fun v9 h8 => if v9 = 0 then (some ((), h8)) else (zo_v h8 y5 10 (rec 4 y5 y6 h8) (fun w14 h13 => zo_v h13 y5 10 (zm_emit sc y5 (6 : Int32) (0 : Int32) h13) (fun w18 h17 => zm_products_l5 sc rec n y5 y6 h17 ))))
set_option maxRecDepth 4000 in
def zm_all_b (sc : zX) (rec : Nat → Nat → Int32 → zH → Option (Unit × zH)) (a0 : Nat) (a1 : Int32) (h : zH) : Option (Unit × zH) := zo_v h a0 10 (rec 1 a0 a1 h) (fun w2 h1 => zm_all_l5 sc rec zo_F a0 a1 h1 )
set_option maxRecDepth 4000 in
def zm_test_b (sc : zX) (rec : Nat → Nat → Int32 → zH → Option (Unit × zH)) (a0 : Nat) (a1 : Int32) (h : zH) : Option (Unit × zH) := zo_v h a0 10 (rec 2 a0 a1 h) (fun w2 h1 => zo_v h1 a0 10 (zm_isSign sc a0 (60 : Int32) h1) (fun v6 h5 => zo_v h5 a0 10 (zm_hasSign sc a0 (60 : Int32) h5) (fun v10 h9 => zo_l (fun (x13 : Nat) (x14 : Int32) (x15 : Int32) (h16 : zH) => zo_v h16 x13 10 (rec 2 x13 x14 h16) (fun w18 h17 => zo_l (if x15 = 0 then (8 : Int32) else (7 : Int32)) (fun (x21 : Int32) => zo_v h17 x13 10 (zm_emit sc x13 x21 (0 : Int32) h17) (fun w23 h22 => some ((), h22))))) (fun j30_16 => if v10 = 0 then (zo_v h9 a0 10 (zm_hasSign sc a0 (61 : Int32) h9) (fun v29 h28 => if v29 = 0 then (some ((), h28)) else (j30_16 a0 a1 v6 h28))) else (j30_16 a0 a1 v6 h9)))))
set_option maxRecDepth 4000 in
def zm_sums_b (sc : zX) (rec : Nat → Nat → Int32 → zH → Option (Unit × zH)) (a0 : Nat) (a1 : Int32) (h : zH) : Option (Unit × zH) := zo_v h a0 10 (rec 3 a0 a1 h) (fun w2 h1 => zm_sums_l5 sc rec zo_F a0 a1 h1 )
set_option maxRecDepth 4000 in
def zm_products_b (sc : zX) (rec : Nat → Nat → Int32 → zH → Option (Unit × zH)) (a0 : Nat) (a1 : Int32) (h : zH) : Option (Unit × zH) := zo_v h a0 10 (rec 4 a0 a1 h) (fun w2 h1 => zm_products_l5 sc rec zo_F a0 a1 h1 )
set_option maxRecDepth 4000 in
def zm_takePart_b (sc : zX) (rec : Nat → Nat → Int32 → zH → Option (Unit × zH)) (a0 : Nat) (a1 : Int32) (h : zH) : Option (Unit × zH) := zo_b (zo_gI h 10 a0 8) (fun v1 => if v1 ≤ 0 then (zo_b (zo_gR h 10 a0 4) (fun v4 => zo_b (zo_gI h 10 a0 7) (fun v6 => zo_b (zq_rdI sc h v4 v6) (fun v8 => zo_l (if v8 = (2 : Int32) then (1 : Int32) else (0 : Int32)) (fun (x10 : Int32) => zo_v h a0 10 (zm_wordHere sc a0 (29 : Int32) (7 : Int32) h) (fun v12 h11 => zo_l (fun (x15 : Nat) (x16 : Int32) (x17 : Int32) (x18 : Int32) (h19 : zH) => zo_l (fun (x20 : Nat) (x21 : Int32) (x22 : Int32) (x23 : Int32) (h24 : zH) => zo_b (zo_gI h24 10 x20 8) (fun v25 => if v25 ≤ 0 then (zo_v h24 x20 10 (zm_hasWord sc x20 (26 : Int32) h24) (fun v29 h28 => if v29 = 0 then (zo_v h28 x20 10 (zm_hasSign sc x20 (40 : Int32) h28) (fun v34 h33 => if v34 = 0 then (zo_l (if x22 = 0 then (2 : Int32) else (1 : Int32)) (fun (x38 : Int32) => zo_l (fun (x39 : Nat) (x40 : Nat) (x41 : Int32) (x42 : Int32) (h43 : zH) => zo_v h43 x40 10 (zm_emit sc x40 x41 x42 h43) (fun w45 h44 => zo_b (zo_gI h44 10 x39 7) (fun v48 => zo_b (zo_pI h44 10 x39 7 (v48 + (1 : Int32))) (fun h50 => some ((), h50))))) (fun j188_43 => if x22 = 0 then (j188_43 x20 x20 x38 x23 h33) else (zo_b (zo_gR h33 10 x20 6) (fun v53 => zo_b (zo_gI h33 10 x20 7) (fun v55 => zo_b (zq_rdL h33 v53 v55) (fun v57 => j188_43 x20 x20 x38 v57.toInt32 h33))))))) else (zo_v h33 x20 10 (rec 0 x20 (x21 + (1 : Int32)) h33) (fun w61 h60 => zo_v h60 x20 10 (zm_takeSign sc x20 (41 : Int32) h60) (fun w65 h64 => some ((), h64)))))) else (zo_v h28 x20 10 (rec 4 x20 (x21 + (1 : Int32)) h28) (fun w69 h68 => zo_v h68 x20 10 (zm_emit sc x20 (3 : Int32) (0 : Int32) h68) (fun w73 h72 => some ((), h72)))))) else (some ((), h24)))) (fun j102_24 => zo_l (fun (x76 : Nat) (x77 : Int32) (x78 : Int32) (x79 : Int32) (h80 : zH) => if x77 = (5 : Int32) then (zo_v h80 x76 10 (zm_wrong sc x76 (5 : Int32) h80) (fun w83 h82 => j102_24 x76 x77 x78 x79 h82)) else (j102_24 x76 x77 x78 x79 h80)) (fun j92_80 => if 0 ≤ x18 then (j92_80 x15 x16 x17 x18 h19) else (if x17 = 0 then (zo_v h19 x15 10 (zm_isSign sc x15 (40 : Int32) h19) (fun v89 h88 => if v89 = 0 then (zo_v h88 x15 10 (zm_isWord sc x15 (26 : Int32) h88) (fun v94 h93 => if v94 = 0 then (zo_v h93 x15 10 (zm_wrong sc x15 (1 : Int32) h93) (fun w99 h98 => j102_24 x15 x16 x17 x18 h98)) else (j92_80 x15 x16 x17 x18 h93))) else (j92_80 x15 x16 x17 x18 h88))) else (j92_80 x15 x16 x17 x18 h19))))) (fun j57_19 => zo_l (fun (x102 : Nat) (x103 : Int32) (x104 : Int32) (h105 : zH) => j57_19 x102 x103 x104 (-1 : Int32) h105) (fun j56_105 => if v12 < 0 then (j56_105 a0 a1 x10 h11) else (zo_b (zo_gI h11 10 a0 21) (fun v107 => if ((v107 >>> (v12 &&& 31)) &&& (1 : Int32)) = (1 : Int32) then (j57_19 a0 a1 x10 v12 h11) else (j56_105 a0 a1 x10 h11))))))))))) else (some ((), h)))
set_option maxRecDepth 4000 in
theorem zm_all_l5_ok (sc : zX) (d : Nat) (hd : 1 ≤ d) (rec : Nat → Nat → Int32 → zH → Option (Unit × zH)) (hrec : ∀ (zs : Nat) (z0 : Nat) (z1 : Int32) (hz : zH) (rz : Unit) (hy : zH), rec zs z0 z1 hz = some (rz, hy) → zq_wm sc d (if zs = 0 then 176 else if zs = 1 then 177 else if zs = 2 then 178 else if zs = 3 then 179 else 180) [.ref z0, .int z1] hz (none, hy)) : ∀ (n : Nat) (y5 : Nat) (y6 : Int32) (h7 : zH) (ro_ : Unit) (ho_ : zH),  zm_all_l5 sc rec n y5 y6 h7  = some (ro_, ho_) → zq_wp sc (d + 1) 176 5 [some (.ref y5), some (.int y6), none] [] h7 (none, ho_) := by
  intro n
  induction n with
  | zero => intro y5 y6 h7 ro_ ho_ hf; cases hf
  | succ n ih =>
    intro y5 y6 h7 ro_ ho_ hf
    refine zq_wg 2 (pc' := 8) (lv' := [some (.ref y5), some (.int y6), none]) (st' := [.int (27 : Int32), .ref y5]) (h' := h7) rfl ?_
    obtain ⟨e11, v9, h8, e10, hf⟩ := zo_v_s hf
    refine zr_cv zq_m160 [.int (27 : Int32)] [] rfl rfl rfl rfl rfl (Nat.le_of_ble_eq_true rfl) (Nat.le_of_ble_eq_true rfl) e11 (zm_isWord_ok sc d (by omega) e10) ?_
    refine zq_wg 0 (pc' := 11) (lv' := [some (.ref y5), some (.int y6), none]) (st' := [.int v9]) (h' := h8) rfl ?_
    obtain ⟨j23_14, hjj23_14, hf⟩ := zo_lj hf
    have kj23_14 : ∀ (x12 : Nat) (x13 : Int32) (h14 : zH), j23_14 x12 x13 h14 = some (ro_, ho_) → zq_wp sc (d + 1) 176 23 [some (.ref x12), some (.int x13), none] [] h14 (none, ho_) := by
      intro x12 x13 h14 hf
      rw [hjj23_14] at hf
      refine zq_wg 2 (pc' := 26) (lv' := [some (.ref x12), some (.int x13), none]) (st' := [.int (27 : Int32), .ref x12]) (h' := h14) rfl ?_
      obtain ⟨e18, v16, h15, e17, hf⟩ := zo_v_s hf
      refine zr_cv zq_m160 [.int (27 : Int32)] [] rfl rfl rfl rfl rfl (Nat.le_of_ble_eq_true rfl) (Nat.le_of_ble_eq_true rfl) e18 (zm_isWord_ok sc d (by omega) e17) ?_
      refine zq_wg 0 (pc' := 29) (lv' := [some (.ref x12), some (.int x13), none]) (st' := [.int v16]) (h' := h15) rfl ?_
      refine zq_wg 3 (pc' := 32) (lv' := [some (.ref x12), some (.int x13), some (.int v16)]) (st' := [.ref x12, .ref x12]) (h' := h15) rfl ?_
      obtain ⟨v19, e20, hf⟩ := zo_b_s hf
      refine zr_gI rfl rfl (by decide) rfl e20 ?_
      refine zq_wg 2 (pc' := 37) (lv' := [some (.ref x12), some (.int x13), some (.int v16)]) (st' := [.int (v19 + (1 : Int32)), .ref x12]) (h' := h15) rfl ?_
      obtain ⟨h21, e22, hf⟩ := zo_b_s hf
      refine zr_pI rfl rfl (by decide) rfl rfl e22 ?_
      refine zq_wg 2 (pc' := 42) (lv' := [some (.ref x12), some (.int x13), some (.int v16)]) (st' := [.int x13, .ref x12]) (h' := h21) rfl ?_
      obtain ⟨e26, w24, h23, e25, hf⟩ := zo_v_s hf
      refine zr_cv zq_m177 [.int x13] [] rfl rfl rfl rfl rfl (Nat.le_of_ble_eq_true rfl) (Nat.le_of_ble_eq_true rfl) e26 (hrec 1 x12 x13 h21 _ _ e25) ?_
      refine zq_wg 0 (pc' := 45) (lv' := [some (.ref x12), some (.int x13), some (.int v16)]) (st' := []) (h' := h23) rfl ?_
      refine zq_wg 2 (pc' := 47) (lv' := [some (.ref x12), some (.int x13), some (.int v16)]) (st' := [.int v16, .ref x12]) (h' := h23) rfl ?_
      obtain ⟨g57_27, hg57_27, hf⟩ := zo_lx hf
      have kg57_27 : ∀ (x27 : Int32), g57_27 x27 = some (ro_, ho_) → zq_wp sc (d + 1) 176 57 [some (.ref x12), some (.int x13), some (.int v16)] [.int x27, .ref x12] h23 (none, ho_) := by
        intro x27 hf
        rw [hg57_27] at hf
        refine zq_wg 1 (pc' := 58) (lv' := [some (.ref x12), some (.int x13), some (.int v16)]) (st' := [.int (0 : Int32), .int x27, .ref x12]) (h' := h23) rfl ?_
        obtain ⟨e31, w29, h28, e30, hf⟩ := zo_v_s hf
        refine zr_cv zq_m182 [.int x27, .int (0 : Int32)] [] rfl rfl rfl rfl rfl (Nat.le_of_ble_eq_true rfl) (Nat.le_of_ble_eq_true rfl) e31 (zm_emit_ok sc d (by omega) e30) ?_
        refine zq_wg 0 (pc' := 61) (lv' := [some (.ref x12), some (.int x13), some (.int v16)]) (st' := []) (h' := h28) rfl ?_
        refine zq_wg 1 (pc' := 5) (lv' := [some (.ref x12), some (.int x13), some (.int v16)]) (st' := []) (h' := h28) rfl ?_
        refine zq_fg [some (.ref x12), some (.int x13), none] (zq_lvle_s (zq_lvle_s (zq_lvle_n zq_lvle_nil))) ?_
        exact ih x12 x13 h28 _ _ hf
      refine zr_if (v16 = 0) 55 50 (st' := [.ref x12]) rfl rfl (fun b32 => ?_) (fun b32 => ?_)
      · have hf := zo_lt hf b32
        refine zq_wg 1 (pc' := 57) (lv' := [some (.ref x12), some (.int x13), some (.int v16)]) (st' := [.int (10 : Int32), .ref x12]) (h' := h23) rfl ?_
        exact kg57_27 _ hf
      · have hf := zo_lf hf b32
        refine zq_wg 2 (pc' := 57) (lv' := [some (.ref x12), some (.int x13), some (.int v16)]) (st' := [.int (9 : Int32), .ref x12]) (h' := h23) rfl ?_
        exact kg57_27 _ hf
    refine zr_if (v9 = 0) 14 23 (st' := []) rfl rfl (fun b33 => ?_) (fun b33 => ?_)
    · have hf := zo_t hf b33
      refine zq_wg 2 (pc' := 17) (lv' := [some (.ref y5), some (.int y6), none]) (st' := [.int (28 : Int32), .ref y5]) (h' := h8) rfl ?_
      obtain ⟨e37, v35, h34, e36, hf⟩ := zo_v_s hf
      refine zr_cv zq_m160 [.int (28 : Int32)] [] rfl rfl rfl rfl rfl (Nat.le_of_ble_eq_true rfl) (Nat.le_of_ble_eq_true rfl) e37 (zm_isWord_ok sc d (by omega) e36) ?_
      refine zq_wg 0 (pc' := 20) (lv' := [some (.ref y5), some (.int y6), none]) (st' := [.int v35]) (h' := h34) rfl ?_
      refine zr_if (v35 = 0) 64 23 (st' := []) rfl rfl (fun b38 => ?_) (fun b38 => ?_)
      · have hf := zo_t hf b38
        exact zr_rv rfl rfl hf
      · have hf := zo_f hf b38
        exact kj23_14 y5 y6 h34 hf
    · have hf := zo_f hf b33
      exact kj23_14 y5 y6 h8 hf
set_option maxRecDepth 4000 in
theorem zm_all_bok (sc : zX) (d : Nat) (hd : 1 ≤ d) (rec : Nat → Nat → Int32 → zH → Option (Unit × zH)) (hrec : ∀ (zs : Nat) (z0 : Nat) (z1 : Int32) (hz : zH) (rz : Unit) (hy : zH), rec zs z0 z1 hz = some (rz, hy) → zq_wm sc d (if zs = 0 then 176 else if zs = 1 then 177 else if zs = 2 then 178 else if zs = 3 then 179 else 180) [.ref z0, .int z1] hz (none, hy)) (a0 : Nat) (a1 : Int32) (h : zH) (ro_ : Unit) (ho_ : zH) (hf : zm_all_b sc rec a0 a1 h = some (ro_, ho_)) : zq_wm sc (d + 1) 176 [.ref a0, .int a1] h (none, ho_) := by
  unfold zm_all_b at hf
  show zq_wp sc (d + 1) 176 0 [some (.ref a0), some (.int a1), none] [] h _
  refine zq_wg 2 (pc' := 2) (lv' := [some (.ref a0), some (.int a1), none]) (st' := [.int a1, .ref a0]) (h' := h) rfl ?_
  obtain ⟨e4, w2, h1, e3, hf⟩ := zo_v_s hf
  refine zr_cv zq_m177 [.int a1] [] rfl rfl rfl rfl rfl (Nat.le_of_ble_eq_true rfl) (Nat.le_of_ble_eq_true rfl) e4 (hrec 1 a0 a1 h _ _ e3) ?_
  refine zq_wg 0 (pc' := 5) (lv' := [some (.ref a0), some (.int a1), none]) (st' := []) (h' := h1) rfl ?_
  refine zm_all_l5_ok sc d hd rec hrec zo_F a0 a1 h1 _ _ hf
set_option maxRecDepth 4000 in
theorem zm_test_bok (sc : zX) (d : Nat) (hd : 1 ≤ d) (rec : Nat → Nat → Int32 → zH → Option (Unit × zH)) (hrec : ∀ (zs : Nat) (z0 : Nat) (z1 : Int32) (hz : zH) (rz : Unit) (hy : zH), rec zs z0 z1 hz = some (rz, hy) → zq_wm sc d (if zs = 0 then 176 else if zs = 1 then 177 else if zs = 2 then 178 else if zs = 3 then 179 else 180) [.ref z0, .int z1] hz (none, hy)) (a0 : Nat) (a1 : Int32) (h : zH) (ro_ : Unit) (ho_ : zH) (hf : zm_test_b sc rec a0 a1 h = some (ro_, ho_)) : zq_wm sc (d + 1) 177 [.ref a0, .int a1] h (none, ho_) := by
  unfold zm_test_b at hf
  show zq_wp sc (d + 1) 177 0 [some (.ref a0), some (.int a1), none] [] h _
  refine zq_wg 2 (pc' := 2) (lv' := [some (.ref a0), some (.int a1), none]) (st' := [.int a1, .ref a0]) (h' := h) rfl ?_
  obtain ⟨e4, w2, h1, e3, hf⟩ := zo_v_s hf
  refine zr_cv zq_m178 [.int a1] [] rfl rfl rfl rfl rfl (Nat.le_of_ble_eq_true rfl) (Nat.le_of_ble_eq_true rfl) e4 (hrec 2 a0 a1 h _ _ e3) ?_
  refine zq_wg 0 (pc' := 5) (lv' := [some (.ref a0), some (.int a1), none]) (st' := []) (h' := h1) rfl ?_
  refine zq_wg 2 (pc' := 8) (lv' := [some (.ref a0), some (.int a1), none]) (st' := [.int (60 : Int32), .ref a0]) (h' := h1) rfl ?_
  obtain ⟨e8, v6, h5, e7, hf⟩ := zo_v_s hf
  refine zr_cv zq_m181 [.int (60 : Int32)] [] rfl rfl rfl rfl rfl (Nat.le_of_ble_eq_true rfl) (Nat.le_of_ble_eq_true rfl) e8 (zm_isSign_ok sc d (by omega) e7) ?_
  refine zq_wg 0 (pc' := 11) (lv' := [some (.ref a0), some (.int a1), none]) (st' := [.int v6]) (h' := h5) rfl ?_
  refine zq_wg 3 (pc' := 15) (lv' := [some (.ref a0), some (.int a1), some (.int v6)]) (st' := [.int (60 : Int32), .ref a0]) (h' := h5) rfl ?_
  obtain ⟨e12, v10, h9, e11, hf⟩ := zo_v_s hf
  refine zr_cv zq_m183 [.int (60 : Int32)] [] rfl rfl rfl rfl rfl (Nat.le_of_ble_eq_true rfl) (Nat.le_of_ble_eq_true rfl) e12 (zm_hasSign_ok sc d (by omega) e11) ?_
  refine zq_wg 0 (pc' := 18) (lv' := [some (.ref a0), some (.int a1), some (.int v6)]) (st' := [.int v10]) (h' := h9) rfl ?_
  obtain ⟨j30_16, hjj30_16, hf⟩ := zo_lj hf
  have kj30_16 : ∀ (x13 : Nat) (x14 : Int32) (x15 : Int32) (h16 : zH), j30_16 x13 x14 x15 h16 = some (ro_, ho_) → zq_wp sc (d + 1) 177 30 [some (.ref x13), some (.int x14), some (.int x15)] [] h16 (none, ho_) := by
    intro x13 x14 x15 h16 hf
    rw [hjj30_16] at hf
    refine zq_wg 2 (pc' := 32) (lv' := [some (.ref x13), some (.int x14), some (.int x15)]) (st' := [.int x14, .ref x13]) (h' := h16) rfl ?_
    obtain ⟨e20, w18, h17, e19, hf⟩ := zo_v_s hf
    refine zr_cv zq_m178 [.int x14] [] rfl rfl rfl rfl rfl (Nat.le_of_ble_eq_true rfl) (Nat.le_of_ble_eq_true rfl) e20 (hrec 2 x13 x14 h16 _ _ e19) ?_
    refine zq_wg 0 (pc' := 35) (lv' := [some (.ref x13), some (.int x14), some (.int x15)]) (st' := []) (h' := h17) rfl ?_
    refine zq_wg 2 (pc' := 37) (lv' := [some (.ref x13), some (.int x14), some (.int x15)]) (st' := [.int x15, .ref x13]) (h' := h17) rfl ?_
    obtain ⟨g47_21, hg47_21, hf⟩ := zo_lx hf
    have kg47_21 : ∀ (x21 : Int32), g47_21 x21 = some (ro_, ho_) → zq_wp sc (d + 1) 177 47 [some (.ref x13), some (.int x14), some (.int x15)] [.int x21, .ref x13] h17 (none, ho_) := by
      intro x21 hf
      rw [hg47_21] at hf
      refine zq_wg 1 (pc' := 48) (lv' := [some (.ref x13), some (.int x14), some (.int x15)]) (st' := [.int (0 : Int32), .int x21, .ref x13]) (h' := h17) rfl ?_
      obtain ⟨e25, w23, h22, e24, hf⟩ := zo_v_s hf
      refine zr_cv zq_m182 [.int x21, .int (0 : Int32)] [] rfl rfl rfl rfl rfl (Nat.le_of_ble_eq_true rfl) (Nat.le_of_ble_eq_true rfl) e25 (zm_emit_ok sc d (by omega) e24) ?_
      refine zq_wg 0 (pc' := 51) (lv' := [some (.ref x13), some (.int x14), some (.int x15)]) (st' := []) (h' := h22) rfl ?_
      exact zr_rv rfl rfl hf
    refine zr_if (x15 = 0) 45 40 (st' := [.ref x13]) rfl rfl (fun b26 => ?_) (fun b26 => ?_)
    · have hf := zo_lt hf b26
      refine zq_wg 1 (pc' := 47) (lv' := [some (.ref x13), some (.int x14), some (.int x15)]) (st' := [.int (8 : Int32), .ref x13]) (h' := h17) rfl ?_
      exact kg47_21 _ hf
    · have hf := zo_lf hf b26
      refine zq_wg 2 (pc' := 47) (lv' := [some (.ref x13), some (.int x14), some (.int x15)]) (st' := [.int (7 : Int32), .ref x13]) (h' := h17) rfl ?_
      exact kg47_21 _ hf
  refine zr_if (v10 = 0) 21 30 (st' := []) rfl rfl (fun b27 => ?_) (fun b27 => ?_)
  · have hf := zo_t hf b27
    refine zq_wg 2 (pc' := 24) (lv' := [some (.ref a0), some (.int a1), some (.int v6)]) (st' := [.int (61 : Int32), .ref a0]) (h' := h9) rfl ?_
    obtain ⟨e31, v29, h28, e30, hf⟩ := zo_v_s hf
    refine zr_cv zq_m183 [.int (61 : Int32)] [] rfl rfl rfl rfl rfl (Nat.le_of_ble_eq_true rfl) (Nat.le_of_ble_eq_true rfl) e31 (zm_hasSign_ok sc d (by omega) e30) ?_
    refine zq_wg 0 (pc' := 27) (lv' := [some (.ref a0), some (.int a1), some (.int v6)]) (st' := [.int v29]) (h' := h28) rfl ?_
    refine zr_if (v29 = 0) 51 30 (st' := []) rfl rfl (fun b32 => ?_) (fun b32 => ?_)
    · have hf := zo_t hf b32
      exact zr_rv rfl rfl hf
    · have hf := zo_f hf b32
      exact kj30_16 a0 a1 v6 h28 hf
  · have hf := zo_f hf b27
    exact kj30_16 a0 a1 v6 h9 hf
set_option maxRecDepth 4000 in
theorem zm_sums_l5_ok (sc : zX) (d : Nat) (hd : 1 ≤ d) (rec : Nat → Nat → Int32 → zH → Option (Unit × zH)) (hrec : ∀ (zs : Nat) (z0 : Nat) (z1 : Int32) (hz : zH) (rz : Unit) (hy : zH), rec zs z0 z1 hz = some (rz, hy) → zq_wm sc d (if zs = 0 then 176 else if zs = 1 then 177 else if zs = 2 then 178 else if zs = 3 then 179 else 180) [.ref z0, .int z1] hz (none, hy)) : ∀ (n : Nat) (y5 : Nat) (y6 : Int32) (h7 : zH) (ro_ : Unit) (ho_ : zH),  zm_sums_l5 sc rec n y5 y6 h7  = some (ro_, ho_) → zq_wp sc (d + 1) 178 5 [some (.ref y5), some (.int y6), none] [] h7 (none, ho_) := by
  intro n
  induction n with
  | zero => intro y5 y6 h7 ro_ ho_ hf; cases hf
  | succ n ih =>
    intro y5 y6 h7 ro_ ho_ hf
    refine zq_wg 2 (pc' := 8) (lv' := [some (.ref y5), some (.int y6), none]) (st' := [.int (43 : Int32), .ref y5]) (h' := h7) rfl ?_
    obtain ⟨e11, v9, h8, e10, hf⟩ := zo_v_s hf
    refine zr_cv zq_m181 [.int (43 : Int32)] [] rfl rfl rfl rfl rfl (Nat.le_of_ble_eq_true rfl) (Nat.le_of_ble_eq_true rfl) e11 (zm_isSign_ok sc d (by omega) e10) ?_
    refine zq_wg 0 (pc' := 11) (lv' := [some (.ref y5), some (.int y6), none]) (st' := [.int v9]) (h' := h8) rfl ?_
    obtain ⟨j23_14, hjj23_14, hf⟩ := zo_lj hf
    have kj23_14 : ∀ (x12 : Nat) (x13 : Int32) (h14 : zH), j23_14 x12 x13 h14 = some (ro_, ho_) → zq_wp sc (d + 1) 178 23 [some (.ref x12), some (.int x13), none] [] h14 (none, ho_) := by
      intro x12 x13 h14 hf
      rw [hjj23_14] at hf
      refine zq_wg 2 (pc' := 26) (lv' := [some (.ref x12), some (.int x13), none]) (st' := [.int (43 : Int32), .ref x12]) (h' := h14) rfl ?_
      obtain ⟨e18, v16, h15, e17, hf⟩ := zo_v_s hf
      refine zr_cv zq_m181 [.int (43 : Int32)] [] rfl rfl rfl rfl rfl (Nat.le_of_ble_eq_true rfl) (Nat.le_of_ble_eq_true rfl) e18 (zm_isSign_ok sc d (by omega) e17) ?_
      refine zq_wg 0 (pc' := 29) (lv' := [some (.ref x12), some (.int x13), none]) (st' := [.int v16]) (h' := h15) rfl ?_
      refine zq_wg 3 (pc' := 32) (lv' := [some (.ref x12), some (.int x13), some (.int v16)]) (st' := [.ref x12, .ref x12]) (h' := h15) rfl ?_
      obtain ⟨v19, e20, hf⟩ := zo_b_s hf
      refine zr_gI rfl rfl (by decide) rfl e20 ?_
      refine zq_wg 2 (pc' := 37) (lv' := [some (.ref x12), some (.int x13), some (.int v16)]) (st' := [.int (v19 + (1 : Int32)), .ref x12]) (h' := h15) rfl ?_
      obtain ⟨h21, e22, hf⟩ := zo_b_s hf
      refine zr_pI rfl rfl (by decide) rfl rfl e22 ?_
      refine zq_wg 2 (pc' := 42) (lv' := [some (.ref x12), some (.int x13), some (.int v16)]) (st' := [.int x13, .ref x12]) (h' := h21) rfl ?_
      obtain ⟨e26, w24, h23, e25, hf⟩ := zo_v_s hf
      refine zr_cv zq_m179 [.int x13] [] rfl rfl rfl rfl rfl (Nat.le_of_ble_eq_true rfl) (Nat.le_of_ble_eq_true rfl) e26 (hrec 3 x12 x13 h21 _ _ e25) ?_
      refine zq_wg 0 (pc' := 45) (lv' := [some (.ref x12), some (.int x13), some (.int v16)]) (st' := []) (h' := h23) rfl ?_
      refine zq_wg 2 (pc' := 47) (lv' := [some (.ref x12), some (.int x13), some (.int v16)]) (st' := [.int v16, .ref x12]) (h' := h23) rfl ?_
      obtain ⟨g55_27, hg55_27, hf⟩ := zo_lx hf
      have kg55_27 : ∀ (x27 : Int32), g55_27 x27 = some (ro_, ho_) → zq_wp sc (d + 1) 178 55 [some (.ref x12), some (.int x13), some (.int v16)] [.int x27, .ref x12] h23 (none, ho_) := by
        intro x27 hf
        rw [hg55_27] at hf
        refine zq_wg 1 (pc' := 56) (lv' := [some (.ref x12), some (.int x13), some (.int v16)]) (st' := [.int (0 : Int32), .int x27, .ref x12]) (h' := h23) rfl ?_
        obtain ⟨e31, w29, h28, e30, hf⟩ := zo_v_s hf
        refine zr_cv zq_m182 [.int x27, .int (0 : Int32)] [] rfl rfl rfl rfl rfl (Nat.le_of_ble_eq_true rfl) (Nat.le_of_ble_eq_true rfl) e31 (zm_emit_ok sc d (by omega) e30) ?_
        refine zq_wg 0 (pc' := 59) (lv' := [some (.ref x12), some (.int x13), some (.int v16)]) (st' := []) (h' := h28) rfl ?_
        refine zq_wg 1 (pc' := 5) (lv' := [some (.ref x12), some (.int x13), some (.int v16)]) (st' := []) (h' := h28) rfl ?_
        refine zq_fg [some (.ref x12), some (.int x13), none] (zq_lvle_s (zq_lvle_s (zq_lvle_n zq_lvle_nil))) ?_
        exact ih x12 x13 h28 _ _ hf
      refine zr_if (v16 = 0) 54 50 (st' := [.ref x12]) rfl rfl (fun b32 => ?_) (fun b32 => ?_)
      · have hf := zo_lt hf b32
        refine zq_wg 1 (pc' := 55) (lv' := [some (.ref x12), some (.int x13), some (.int v16)]) (st' := [.int (5 : Int32), .ref x12]) (h' := h23) rfl ?_
        exact kg55_27 _ hf
      · have hf := zo_lf hf b32
        refine zq_wg 2 (pc' := 55) (lv' := [some (.ref x12), some (.int x13), some (.int v16)]) (st' := [.int (4 : Int32), .ref x12]) (h' := h23) rfl ?_
        exact kg55_27 _ hf
    refine zr_if (v9 = 0) 14 23 (st' := []) rfl rfl (fun b33 => ?_) (fun b33 => ?_)
    · have hf := zo_t hf b33
      refine zq_wg 2 (pc' := 17) (lv' := [some (.ref y5), some (.int y6), none]) (st' := [.int (45 : Int32), .ref y5]) (h' := h8) rfl ?_
      obtain ⟨e37, v35, h34, e36, hf⟩ := zo_v_s hf
      refine zr_cv zq_m181 [.int (45 : Int32)] [] rfl rfl rfl rfl rfl (Nat.le_of_ble_eq_true rfl) (Nat.le_of_ble_eq_true rfl) e37 (zm_isSign_ok sc d (by omega) e36) ?_
      refine zq_wg 0 (pc' := 20) (lv' := [some (.ref y5), some (.int y6), none]) (st' := [.int v35]) (h' := h34) rfl ?_
      refine zr_if (v35 = 0) 62 23 (st' := []) rfl rfl (fun b38 => ?_) (fun b38 => ?_)
      · have hf := zo_t hf b38
        exact zr_rv rfl rfl hf
      · have hf := zo_f hf b38
        exact kj23_14 y5 y6 h34 hf
    · have hf := zo_f hf b33
      exact kj23_14 y5 y6 h8 hf
set_option maxRecDepth 4000 in
theorem zm_sums_bok (sc : zX) (d : Nat) (hd : 1 ≤ d) (rec : Nat → Nat → Int32 → zH → Option (Unit × zH)) (hrec : ∀ (zs : Nat) (z0 : Nat) (z1 : Int32) (hz : zH) (rz : Unit) (hy : zH), rec zs z0 z1 hz = some (rz, hy) → zq_wm sc d (if zs = 0 then 176 else if zs = 1 then 177 else if zs = 2 then 178 else if zs = 3 then 179 else 180) [.ref z0, .int z1] hz (none, hy)) (a0 : Nat) (a1 : Int32) (h : zH) (ro_ : Unit) (ho_ : zH) (hf : zm_sums_b sc rec a0 a1 h = some (ro_, ho_)) : zq_wm sc (d + 1) 178 [.ref a0, .int a1] h (none, ho_) := by
  unfold zm_sums_b at hf
  show zq_wp sc (d + 1) 178 0 [some (.ref a0), some (.int a1), none] [] h _
  refine zq_wg 2 (pc' := 2) (lv' := [some (.ref a0), some (.int a1), none]) (st' := [.int a1, .ref a0]) (h' := h) rfl ?_
  obtain ⟨e4, w2, h1, e3, hf⟩ := zo_v_s hf
  refine zr_cv zq_m179 [.int a1] [] rfl rfl rfl rfl rfl (Nat.le_of_ble_eq_true rfl) (Nat.le_of_ble_eq_true rfl) e4 (hrec 3 a0 a1 h _ _ e3) ?_
  refine zq_wg 0 (pc' := 5) (lv' := [some (.ref a0), some (.int a1), none]) (st' := []) (h' := h1) rfl ?_
  refine zm_sums_l5_ok sc d hd rec hrec zo_F a0 a1 h1 _ _ hf
set_option maxRecDepth 4000 in
theorem zm_products_l5_ok (sc : zX) (d : Nat) (hd : 1 ≤ d) (rec : Nat → Nat → Int32 → zH → Option (Unit × zH)) (hrec : ∀ (zs : Nat) (z0 : Nat) (z1 : Int32) (hz : zH) (rz : Unit) (hy : zH), rec zs z0 z1 hz = some (rz, hy) → zq_wm sc d (if zs = 0 then 176 else if zs = 1 then 177 else if zs = 2 then 178 else if zs = 3 then 179 else 180) [.ref z0, .int z1] hz (none, hy)) : ∀ (n : Nat) (y5 : Nat) (y6 : Int32) (h7 : zH) (ro_ : Unit) (ho_ : zH),  zm_products_l5 sc rec n y5 y6 h7  = some (ro_, ho_) → zq_wp sc (d + 1) 179 5 [some (.ref y5), some (.int y6)] [] h7 (none, ho_) := by
  intro n
  induction n with
  | zero => intro y5 y6 h7 ro_ ho_ hf; cases hf
  | succ n ih =>
    intro y5 y6 h7 ro_ ho_ hf
    refine zq_wg 2 (pc' := 8) (lv' := [some (.ref y5), some (.int y6)]) (st' := [.int (42 : Int32), .ref y5]) (h' := h7) rfl ?_
    obtain ⟨e11, v9, h8, e10, hf⟩ := zo_v_s hf
    refine zr_cv zq_m183 [.int (42 : Int32)] [] rfl rfl rfl rfl rfl (Nat.le_of_ble_eq_true rfl) (Nat.le_of_ble_eq_true rfl) e11 (zm_hasSign_ok sc d (by omega) e10) ?_
    refine zq_wg 0 (pc' := 11) (lv' := [some (.ref y5), some (.int y6)]) (st' := [.int v9]) (h' := h8) rfl ?_
    refine zr_if (v9 = 0) 29 14 (st' := []) rfl rfl (fun b12 => ?_) (fun b12 => ?_)
    · have hf := zo_t hf b12
      exact zr_rv rfl rfl hf
    · have hf := zo_f hf b12
      refine zq_wg 2 (pc' := 16) (lv' := [some (.ref y5), some (.int y6)]) (st' := [.int y6, .ref y5]) (h' := h8) rfl ?_
      obtain ⟨e16, w14, h13, e15, hf⟩ := zo_v_s hf
      refine zr_cv zq_m180 [.int y6] [] rfl rfl rfl rfl rfl (Nat.le_of_ble_eq_true rfl) (Nat.le_of_ble_eq_true rfl) e16 (hrec 4 y5 y6 h8 _ _ e15) ?_
      refine zq_wg 0 (pc' := 19) (lv' := [some (.ref y5), some (.int y6)]) (st' := []) (h' := h13) rfl ?_
      refine zq_wg 3 (pc' := 23) (lv' := [some (.ref y5), some (.int y6)]) (st' := [.int (0 : Int32), .int (6 : Int32), .ref y5]) (h' := h13) rfl ?_
      obtain ⟨e20, w18, h17, e19, hf⟩ := zo_v_s hf
      refine zr_cv zq_m182 [.int (6 : Int32), .int (0 : Int32)] [] rfl rfl rfl rfl rfl (Nat.le_of_ble_eq_true rfl) (Nat.le_of_ble_eq_true rfl) e20 (zm_emit_ok sc d (by omega) e19) ?_
      refine zq_wg 0 (pc' := 26) (lv' := [some (.ref y5), some (.int y6)]) (st' := []) (h' := h17) rfl ?_
      refine zq_wg 1 (pc' := 5) (lv' := [some (.ref y5), some (.int y6)]) (st' := []) (h' := h17) rfl ?_
      exact ih y5 y6 h17 _ _ hf
set_option maxRecDepth 4000 in
theorem zm_products_bok (sc : zX) (d : Nat) (hd : 1 ≤ d) (rec : Nat → Nat → Int32 → zH → Option (Unit × zH)) (hrec : ∀ (zs : Nat) (z0 : Nat) (z1 : Int32) (hz : zH) (rz : Unit) (hy : zH), rec zs z0 z1 hz = some (rz, hy) → zq_wm sc d (if zs = 0 then 176 else if zs = 1 then 177 else if zs = 2 then 178 else if zs = 3 then 179 else 180) [.ref z0, .int z1] hz (none, hy)) (a0 : Nat) (a1 : Int32) (h : zH) (ro_ : Unit) (ho_ : zH) (hf : zm_products_b sc rec a0 a1 h = some (ro_, ho_)) : zq_wm sc (d + 1) 179 [.ref a0, .int a1] h (none, ho_) := by
  unfold zm_products_b at hf
  show zq_wp sc (d + 1) 179 0 [some (.ref a0), some (.int a1)] [] h _
  refine zq_wg 2 (pc' := 2) (lv' := [some (.ref a0), some (.int a1)]) (st' := [.int a1, .ref a0]) (h' := h) rfl ?_
  obtain ⟨e4, w2, h1, e3, hf⟩ := zo_v_s hf
  refine zr_cv zq_m180 [.int a1] [] rfl rfl rfl rfl rfl (Nat.le_of_ble_eq_true rfl) (Nat.le_of_ble_eq_true rfl) e4 (hrec 4 a0 a1 h _ _ e3) ?_
  refine zq_wg 0 (pc' := 5) (lv' := [some (.ref a0), some (.int a1)]) (st' := []) (h' := h1) rfl ?_
  refine zm_products_l5_ok sc d hd rec hrec zo_F a0 a1 h1 _ _ hf
set_option maxRecDepth 4000 in
theorem zm_takePart_bok (sc : zX) (d : Nat) (hd : 1 ≤ d) (rec : Nat → Nat → Int32 → zH → Option (Unit × zH)) (hrec : ∀ (zs : Nat) (z0 : Nat) (z1 : Int32) (hz : zH) (rz : Unit) (hy : zH), rec zs z0 z1 hz = some (rz, hy) → zq_wm sc d (if zs = 0 then 176 else if zs = 1 then 177 else if zs = 2 then 178 else if zs = 3 then 179 else 180) [.ref z0, .int z1] hz (none, hy)) (a0 : Nat) (a1 : Int32) (h : zH) (ro_ : Unit) (ho_ : zH) (hf : zm_takePart_b sc rec a0 a1 h = some (ro_, ho_)) : zq_wm sc (d + 1) 180 [.ref a0, .int a1] h (none, ho_) := by
  unfold zm_takePart_b at hf
  show zq_wp sc (d + 1) 180 0 [some (.ref a0), some (.int a1), none, none] [] h _
  refine zq_wg 1 (pc' := 1) (lv' := [some (.ref a0), some (.int a1), none, none]) (st' := [.ref a0]) (h' := h) rfl ?_
  obtain ⟨v1, e2, hf⟩ := zo_b_s hf
  refine zr_gI rfl rfl (by decide) rfl e2 ?_
  refine zr_if (v1 ≤ 0) 8 7 (st' := []) rfl rfl (fun b3 => ?_) (fun b3 => ?_)
  · have hf := zo_t hf b3
    refine zq_wg 1 (pc' := 9) (lv' := [some (.ref a0), some (.int a1), none, none]) (st' := [.ref a0]) (h' := h) rfl ?_
    obtain ⟨v4, e5, hf⟩ := zo_b_s hf
    refine zr_gR rfl rfl (by decide) rfl e5 ?_
    refine zq_wg 1 (pc' := 13) (lv' := [some (.ref a0), some (.int a1), none, none]) (st' := [.ref a0, .ref v4]) (h' := h) rfl ?_
    obtain ⟨v6, e7, hf⟩ := zo_b_s hf
    refine zr_gI rfl rfl (by decide) rfl e7 ?_
    obtain ⟨v8, e9, hf⟩ := zo_b_s hf
    refine zr_iald rfl e9 ?_
    refine zq_wg 1 (pc' := 18) (lv' := [some (.ref a0), some (.int a1), none, none]) (st' := [.int (2 : Int32), .int v8]) (h' := h) rfl ?_
    obtain ⟨g26_10, hg26_10, hf⟩ := zo_lx hf
    have kg26_10 : ∀ (x10 : Int32), g26_10 x10 = some (ro_, ho_) → zq_wp sc (d + 1) 180 26 [some (.ref a0), some (.int a1), none, none] [.int x10] h (none, ho_) := by
      intro x10 hf
      rw [hg26_10] at hf
      refine zq_wg 4 (pc' := 32) (lv' := [some (.ref a0), some (.int a1), some (.int x10), none]) (st' := [.int (7 : Int32), .int (29 : Int32), .ref a0]) (h' := h) rfl ?_
      obtain ⟨e14, v12, h11, e13, hf⟩ := zo_v_s hf
      refine zr_cv zq_m165 [.int (29 : Int32), .int (7 : Int32)] [] rfl rfl rfl rfl rfl (Nat.le_of_ble_eq_true rfl) (Nat.le_of_ble_eq_true rfl) e14 (zm_wordHere_ok sc d (by omega) e13) ?_
      refine zq_wg 0 (pc' := 35) (lv' := [some (.ref a0), some (.int a1), some (.int x10), none]) (st' := [.int v12]) (h' := h11) rfl ?_
      refine zq_wg 2 (pc' := 37) (lv' := [some (.ref a0), some (.int a1), some (.int x10), some (.int v12)]) (st' := [.int v12]) (h' := h11) rfl ?_
      obtain ⟨j57_19, hjj57_19, hf⟩ := zo_lj hf
      have kj57_19 : ∀ (x15 : Nat) (x16 : Int32) (x17 : Int32) (x18 : Int32) (h19 : zH), j57_19 x15 x16 x17 x18 h19 = some (ro_, ho_) → zq_wp sc (d + 1) 180 57 [some (.ref x15), some (.int x16), some (.int x17), none] [.int x18] h19 (none, ho_) := by
        intro x15 x16 x17 x18 h19 hf
        rw [hjj57_19] at hf
        refine zq_wg 2 (pc' := 59) (lv' := [some (.ref x15), some (.int x16), some (.int x17), some (.int x18)]) (st' := [.int x18]) (h' := h19) rfl ?_
        obtain ⟨j102_24, hjj102_24, hf⟩ := zo_lj hf
        have kj102_24 : ∀ (x20 : Nat) (x21 : Int32) (x22 : Int32) (x23 : Int32) (h24 : zH), j102_24 x20 x21 x22 x23 h24 = some (ro_, ho_) → zq_wp sc (d + 1) 180 102 [some (.ref x20), some (.int x21), some (.int x22), some (.int x23)] [] h24 (none, ho_) := by
          intro x20 x21 x22 x23 h24 hf
          rw [hjj102_24] at hf
          refine zq_wg 1 (pc' := 103) (lv' := [some (.ref x20), some (.int x21), some (.int x22), some (.int x23)]) (st' := [.ref x20]) (h' := h24) rfl ?_
          obtain ⟨v25, e26, hf⟩ := zo_b_s hf
          refine zr_gI rfl rfl (by decide) rfl e26 ?_
          refine zr_if (v25 ≤ 0) 110 109 (st' := []) rfl rfl (fun b27 => ?_) (fun b27 => ?_)
          · have hf := zo_t hf b27
            refine zq_wg 2 (pc' := 113) (lv' := [some (.ref x20), some (.int x21), some (.int x22), some (.int x23)]) (st' := [.int (26 : Int32), .ref x20]) (h' := h24) rfl ?_
            obtain ⟨e31, v29, h28, e30, hf⟩ := zo_v_s hf
            refine zr_cv zq_m170 [.int (26 : Int32)] [] rfl rfl rfl rfl rfl (Nat.le_of_ble_eq_true rfl) (Nat.le_of_ble_eq_true rfl) e31 (zm_hasWord_ok sc d (by omega) e30) ?_
            refine zq_wg 0 (pc' := 116) (lv' := [some (.ref x20), some (.int x21), some (.int x22), some (.int x23)]) (st' := [.int v29]) (h' := h28) rfl ?_
            refine zr_if (v29 = 0) 135 119 (st' := []) rfl rfl (fun b32 => ?_) (fun b32 => ?_)
            · have hf := zo_t hf b32
              refine zq_wg 2 (pc' := 138) (lv' := [some (.ref x20), some (.int x21), some (.int x22), some (.int x23)]) (st' := [.int (40 : Int32), .ref x20]) (h' := h28) rfl ?_
              obtain ⟨e36, v34, h33, e35, hf⟩ := zo_v_s hf
              refine zr_cv zq_m183 [.int (40 : Int32)] [] rfl rfl rfl rfl rfl (Nat.le_of_ble_eq_true rfl) (Nat.le_of_ble_eq_true rfl) e36 (zm_hasSign_ok sc d (by omega) e35) ?_
              refine zq_wg 0 (pc' := 141) (lv' := [some (.ref x20), some (.int x21), some (.int x22), some (.int x23)]) (st' := [.int v34]) (h' := h33) rfl ?_
              refine zr_if (v34 = 0) 160 144 (st' := []) rfl rfl (fun b37 => ?_) (fun b37 => ?_)
              · have hf := zo_t hf b37
                refine zq_wg 2 (pc' := 162) (lv' := [some (.ref x20), some (.int x21), some (.int x22), some (.int x23)]) (st' := [.int x22, .ref x20]) (h' := h33) rfl ?_
                obtain ⟨g170_38, hg170_38, hf⟩ := zo_lx hf
                have kg170_38 : ∀ (x38 : Int32), g170_38 x38 = some (ro_, ho_) → zq_wp sc (d + 1) 180 170 [some (.ref x20), some (.int x21), some (.int x22), some (.int x23)] [.int x38, .ref x20] h33 (none, ho_) := by
                  intro x38 hf
                  rw [hg170_38] at hf
                  refine zq_wg 1 (pc' := 171) (lv' := [some (.ref x20), some (.int x21), some (.int x22), some (.int x23)]) (st' := [.int x22, .int x38, .ref x20]) (h' := h33) rfl ?_
                  obtain ⟨j188_43, hjj188_43, hf⟩ := zo_lj hf
                  have kj188_43 : ∀ (x39 : Nat) (x40 : Nat) (x41 : Int32) (x42 : Int32) (h43 : zH), j188_43 x39 x40 x41 x42 h43 = some (ro_, ho_) → zq_wp sc (d + 1) 180 188 [some (.ref x39), none, none, none] [.int x42, .int x41, .ref x40] h43 (none, ho_) := by
                    intro x39 x40 x41 x42 h43 hf
                    rw [hjj188_43] at hf
                    obtain ⟨e47, w45, h44, e46, hf⟩ := zo_v_s hf
                    refine zr_cv zq_m182 [.int x41, .int x42] [] rfl rfl rfl rfl rfl (Nat.le_of_ble_eq_true rfl) (Nat.le_of_ble_eq_true rfl) e47 (zm_emit_ok sc d (by omega) e46) ?_
                    refine zq_wg 0 (pc' := 191) (lv' := [some (.ref x39), none, none, none]) (st' := []) (h' := h44) rfl ?_
                    refine zq_wg 2 (pc' := 193) (lv' := [some (.ref x39), none, none, none]) (st' := [.ref x39, .ref x39]) (h' := h44) rfl ?_
                    obtain ⟨v48, e49, hf⟩ := zo_b_s hf
                    refine zr_gI rfl rfl (by decide) rfl e49 ?_
                    refine zq_wg 2 (pc' := 198) (lv' := [some (.ref x39), none, none, none]) (st' := [.int (v48 + (1 : Int32)), .ref x39]) (h' := h44) rfl ?_
                    obtain ⟨h50, e51, hf⟩ := zo_b_s hf
                    refine zr_pI rfl rfl (by decide) rfl rfl e51 ?_
                    exact zr_rv rfl rfl hf
                  refine zr_if (x22 = 0) 187 174 (st' := [.int x38, .ref x20]) rfl rfl (fun b52 => ?_) (fun b52 => ?_)
                  · have hf := zo_t hf b52
                    refine zq_wg 1 (pc' := 188) (lv' := [some (.ref x20), some (.int x21), some (.int x22), some (.int x23)]) (st' := [.int x23, .int x38, .ref x20]) (h' := h33) rfl ?_
                    refine zq_fg [some (.ref x20), none, none, none] (zq_lvle_s (zq_lvle_n (zq_lvle_n (zq_lvle_n zq_lvle_nil)))) ?_
                    exact kj188_43 x20 x20 x38 x23 h33 hf
                  · have hf := zo_f hf b52
                    refine zq_wg 1 (pc' := 175) (lv' := [some (.ref x20), some (.int x21), some (.int x22), some (.int x23)]) (st' := [.ref x20, .int x38, .ref x20]) (h' := h33) rfl ?_
                    obtain ⟨v53, e54, hf⟩ := zo_b_s hf
                    refine zr_gR rfl rfl (by decide) rfl e54 ?_
                    refine zq_wg 1 (pc' := 179) (lv' := [some (.ref x20), some (.int x21), some (.int x22), some (.int x23)]) (st' := [.ref x20, .ref v53, .int x38, .ref x20]) (h' := h33) rfl ?_
                    obtain ⟨v55, e56, hf⟩ := zo_b_s hf
                    refine zr_gI rfl rfl (by decide) rfl e56 ?_
                    obtain ⟨v57, e58, hf⟩ := zo_b_s hf
                    refine zr_lald rfl e58 ?_
                    refine zq_wg 2 (pc' := 188) (lv' := [some (.ref x20), some (.int x21), some (.int x22), some (.int x23)]) (st' := [.int v57.toInt32, .int x38, .ref x20]) (h' := h33) rfl ?_
                    refine zq_fg [some (.ref x20), none, none, none] (zq_lvle_s (zq_lvle_n (zq_lvle_n (zq_lvle_n zq_lvle_nil)))) ?_
                    exact kj188_43 x20 x20 x38 v57.toInt32 h33 hf
                refine zr_if (x22 = 0) 169 165 (st' := [.ref x20]) rfl rfl (fun b59 => ?_) (fun b59 => ?_)
                · have hf := zo_lt hf b59
                  refine zq_wg 1 (pc' := 170) (lv' := [some (.ref x20), some (.int x21), some (.int x22), some (.int x23)]) (st' := [.int (2 : Int32), .ref x20]) (h' := h33) rfl ?_
                  exact kg170_38 _ hf
                · have hf := zo_lf hf b59
                  refine zq_wg 2 (pc' := 170) (lv' := [some (.ref x20), some (.int x21), some (.int x22), some (.int x23)]) (st' := [.int (1 : Int32), .ref x20]) (h' := h33) rfl ?_
                  exact kg170_38 _ hf
              · have hf := zo_f hf b37
                refine zq_wg 4 (pc' := 148) (lv' := [some (.ref x20), some (.int x21), some (.int x22), some (.int x23)]) (st' := [.int (x21 + (1 : Int32)), .ref x20]) (h' := h33) rfl ?_
                obtain ⟨e63, w61, h60, e62, hf⟩ := zo_v_s hf
                refine zr_cv zq_m176 [.int (x21 + (1 : Int32))] [] rfl rfl rfl rfl rfl (Nat.le_of_ble_eq_true rfl) (Nat.le_of_ble_eq_true rfl) e63 (hrec 0 x20 (x21 + (1 : Int32)) h33 _ _ e62) ?_
                refine zq_wg 0 (pc' := 151) (lv' := [some (.ref x20), some (.int x21), some (.int x22), some (.int x23)]) (st' := []) (h' := h60) rfl ?_
                refine zq_wg 2 (pc' := 154) (lv' := [some (.ref x20), some (.int x21), some (.int x22), some (.int x23)]) (st' := [.int (41 : Int32), .ref x20]) (h' := h60) rfl ?_
                obtain ⟨e67, w65, h64, e66, hf⟩ := zo_v_s hf
                refine zr_cv zq_m184 [.int (41 : Int32)] [] rfl rfl rfl rfl rfl (Nat.le_of_ble_eq_true rfl) (Nat.le_of_ble_eq_true rfl) e67 (zm_takeSign_ok sc d (by omega) e66) ?_
                refine zq_wg 0 (pc' := 157) (lv' := [some (.ref x20), some (.int x21), some (.int x22), some (.int x23)]) (st' := []) (h' := h64) rfl ?_
                refine zq_wg 1 (pc' := 201) (lv' := [some (.ref x20), some (.int x21), some (.int x22), some (.int x23)]) (st' := []) (h' := h64) rfl ?_
                exact zr_rv rfl rfl hf
            · have hf := zo_f hf b32
              refine zq_wg 4 (pc' := 123) (lv' := [some (.ref x20), some (.int x21), some (.int x22), some (.int x23)]) (st' := [.int (x21 + (1 : Int32)), .ref x20]) (h' := h28) rfl ?_
              obtain ⟨e71, w69, h68, e70, hf⟩ := zo_v_s hf
              refine zr_cv zq_m180 [.int (x21 + (1 : Int32))] [] rfl rfl rfl rfl rfl (Nat.le_of_ble_eq_true rfl) (Nat.le_of_ble_eq_true rfl) e71 (hrec 4 x20 (x21 + (1 : Int32)) h28 _ _ e70) ?_
              refine zq_wg 0 (pc' := 126) (lv' := [some (.ref x20), some (.int x21), some (.int x22), some (.int x23)]) (st' := []) (h' := h68) rfl ?_
              refine zq_wg 3 (pc' := 129) (lv' := [some (.ref x20), some (.int x21), some (.int x22), some (.int x23)]) (st' := [.int (0 : Int32), .int (3 : Int32), .ref x20]) (h' := h68) rfl ?_
              obtain ⟨e75, w73, h72, e74, hf⟩ := zo_v_s hf
              refine zr_cv zq_m182 [.int (3 : Int32), .int (0 : Int32)] [] rfl rfl rfl rfl rfl (Nat.le_of_ble_eq_true rfl) (Nat.le_of_ble_eq_true rfl) e75 (zm_emit_ok sc d (by omega) e74) ?_
              refine zq_wg 0 (pc' := 132) (lv' := [some (.ref x20), some (.int x21), some (.int x22), some (.int x23)]) (st' := []) (h' := h72) rfl ?_
              refine zq_wg 1 (pc' := 201) (lv' := [some (.ref x20), some (.int x21), some (.int x22), some (.int x23)]) (st' := []) (h' := h72) rfl ?_
              exact zr_rv rfl rfl hf
          · have hf := zo_f hf b27
            exact zr_rv rfl rfl hf
        obtain ⟨j92_80, hjj92_80, hf⟩ := zo_lj hf
        have kj92_80 : ∀ (x76 : Nat) (x77 : Int32) (x78 : Int32) (x79 : Int32) (h80 : zH), j92_80 x76 x77 x78 x79 h80 = some (ro_, ho_) → zq_wp sc (d + 1) 180 92 [some (.ref x76), some (.int x77), some (.int x78), some (.int x79)] [] h80 (none, ho_) := by
          intro x76 x77 x78 x79 h80 hf
          rw [hjj92_80] at hf
          refine zq_wg 2 (pc' := 94) (lv' := [some (.ref x76), some (.int x77), some (.int x78), some (.int x79)]) (st' := [.int (5 : Int32), .int x77]) (h' := h80) rfl ?_
          refine zr_if (x77 = (5 : Int32)) 97 102 (st' := []) rfl rfl (fun b81 => ?_) (fun b81 => ?_)
          · have hf := zo_t hf b81
            refine zq_wg 2 (pc' := 99) (lv' := [some (.ref x76), some (.int x77), some (.int x78), some (.int x79)]) (st' := [.int (5 : Int32), .ref x76]) (h' := h80) rfl ?_
            obtain ⟨e85, w83, h82, e84, hf⟩ := zo_v_s hf
            refine zr_cv zq_m162 [.int (5 : Int32)] [] rfl rfl rfl rfl rfl (Nat.le_of_ble_eq_true rfl) (Nat.le_of_ble_eq_true rfl) e85 (zm_wrong_ok sc d (by omega) e84) ?_
            refine zq_wg 0 (pc' := 102) (lv' := [some (.ref x76), some (.int x77), some (.int x78), some (.int x79)]) (st' := []) (h' := h82) rfl ?_
            exact kj102_24 x76 x77 x78 x79 h82 hf
          · have hf := zo_f hf b81
            exact kj102_24 x76 x77 x78 x79 h80 hf
        refine zr_if (0 ≤ x18) 92 62 (st' := []) rfl rfl (fun b86 => ?_) (fun b86 => ?_)
        · have hf := zo_t hf b86
          exact kj92_80 x15 x16 x17 x18 h19 hf
        · have hf := zo_f hf b86
          refine zq_wg 1 (pc' := 63) (lv' := [some (.ref x15), some (.int x16), some (.int x17), some (.int x18)]) (st' := [.int x17]) (h' := h19) rfl ?_
          refine zr_if (x17 = 0) 66 92 (st' := []) rfl rfl (fun b87 => ?_) (fun b87 => ?_)
          · have hf := zo_t hf b87
            refine zq_wg 2 (pc' := 69) (lv' := [some (.ref x15), some (.int x16), some (.int x17), some (.int x18)]) (st' := [.int (40 : Int32), .ref x15]) (h' := h19) rfl ?_
            obtain ⟨e91, v89, h88, e90, hf⟩ := zo_v_s hf
            refine zr_cv zq_m181 [.int (40 : Int32)] [] rfl rfl rfl rfl rfl (Nat.le_of_ble_eq_true rfl) (Nat.le_of_ble_eq_true rfl) e91 (zm_isSign_ok sc d (by omega) e90) ?_
            refine zq_wg 0 (pc' := 72) (lv' := [some (.ref x15), some (.int x16), some (.int x17), some (.int x18)]) (st' := [.int v89]) (h' := h88) rfl ?_
            refine zr_if (v89 = 0) 75 92 (st' := []) rfl rfl (fun b92 => ?_) (fun b92 => ?_)
            · have hf := zo_t hf b92
              refine zq_wg 2 (pc' := 78) (lv' := [some (.ref x15), some (.int x16), some (.int x17), some (.int x18)]) (st' := [.int (26 : Int32), .ref x15]) (h' := h88) rfl ?_
              obtain ⟨e96, v94, h93, e95, hf⟩ := zo_v_s hf
              refine zr_cv zq_m160 [.int (26 : Int32)] [] rfl rfl rfl rfl rfl (Nat.le_of_ble_eq_true rfl) (Nat.le_of_ble_eq_true rfl) e96 (zm_isWord_ok sc d (by omega) e95) ?_
              refine zq_wg 0 (pc' := 81) (lv' := [some (.ref x15), some (.int x16), some (.int x17), some (.int x18)]) (st' := [.int v94]) (h' := h93) rfl ?_
              refine zr_if (v94 = 0) 84 92 (st' := []) rfl rfl (fun b97 => ?_) (fun b97 => ?_)
              · have hf := zo_t hf b97
                refine zq_wg 2 (pc' := 86) (lv' := [some (.ref x15), some (.int x16), some (.int x17), some (.int x18)]) (st' := [.int (1 : Int32), .ref x15]) (h' := h93) rfl ?_
                obtain ⟨e101, w99, h98, e100, hf⟩ := zo_v_s hf
                refine zr_cv zq_m162 [.int (1 : Int32)] [] rfl rfl rfl rfl rfl (Nat.le_of_ble_eq_true rfl) (Nat.le_of_ble_eq_true rfl) e101 (zm_wrong_ok sc d (by omega) e100) ?_
                refine zq_wg 0 (pc' := 89) (lv' := [some (.ref x15), some (.int x16), some (.int x17), some (.int x18)]) (st' := []) (h' := h98) rfl ?_
                refine zq_wg 1 (pc' := 102) (lv' := [some (.ref x15), some (.int x16), some (.int x17), some (.int x18)]) (st' := []) (h' := h98) rfl ?_
                exact kj102_24 x15 x16 x17 x18 h98 hf
              · have hf := zo_f hf b97
                exact kj92_80 x15 x16 x17 x18 h93 hf
            · have hf := zo_f hf b92
              exact kj92_80 x15 x16 x17 x18 h88 hf
          · have hf := zo_f hf b87
            exact kj92_80 x15 x16 x17 x18 h19 hf
      obtain ⟨j56_105, hjj56_105, hf⟩ := zo_lj hf
      have kj56_105 : ∀ (x102 : Nat) (x103 : Int32) (x104 : Int32) (h105 : zH), j56_105 x102 x103 x104 h105 = some (ro_, ho_) → zq_wp sc (d + 1) 180 56 [some (.ref x102), some (.int x103), some (.int x104), none] [] h105 (none, ho_) := by
        intro x102 x103 x104 h105 hf
        rw [hjj56_105] at hf
        refine zq_wg 1 (pc' := 57) (lv' := [some (.ref x102), some (.int x103), some (.int x104), none]) (st' := [.int (-1 : Int32)]) (h' := h105) rfl ?_
        exact kj57_19 x102 x103 x104 (-1 : Int32) h105 hf
      refine zr_if (v12 < 0) 56 40 (st' := []) rfl rfl (fun b106 => ?_) (fun b106 => ?_)
      · have hf := zo_t hf b106
        refine zq_fg [some (.ref a0), some (.int a1), some (.int x10), none] (zq_lvle_s (zq_lvle_s (zq_lvle_s (zq_lvle_n zq_lvle_nil)))) ?_
        exact kj56_105 a0 a1 x10 h11 hf
      · have hf := zo_f hf b106
        refine zq_wg 1 (pc' := 41) (lv' := [some (.ref a0), some (.int a1), some (.int x10), some (.int v12)]) (st' := [.ref a0]) (h' := h11) rfl ?_
        obtain ⟨v107, e108, hf⟩ := zo_b_s hf
        refine zr_gI rfl rfl (by decide) rfl e108 ?_
        refine zq_wg 5 (pc' := 49) (lv' := [some (.ref a0), some (.int a1), some (.int x10), some (.int v12)]) (st' := [.int (1 : Int32), .int ((v107 >>> (v12 &&& 31)) &&& (1 : Int32))]) (h' := h11) rfl ?_
        refine zr_if (((v107 >>> (v12 &&& 31)) &&& (1 : Int32)) = (1 : Int32)) 52 56 (st' := []) rfl rfl (fun b109 => ?_) (fun b109 => ?_)
        · have hf := zo_t hf b109
          refine zq_wg 2 (pc' := 57) (lv' := [some (.ref a0), some (.int a1), some (.int x10), some (.int v12)]) (st' := [.int v12]) (h' := h11) rfl ?_
          refine zq_fg [some (.ref a0), some (.int a1), some (.int x10), none] (zq_lvle_s (zq_lvle_s (zq_lvle_s (zq_lvle_n zq_lvle_nil)))) ?_
          exact kj57_19 a0 a1 x10 v12 h11 hf
        · have hf := zo_f hf b109
          refine zq_fg [some (.ref a0), some (.int a1), some (.int x10), none] (zq_lvle_s (zq_lvle_s (zq_lvle_s (zq_lvle_n zq_lvle_nil)))) ?_
          exact kj56_105 a0 a1 x10 h11 hf
    refine zr_if (v8 = (2 : Int32)) 21 25 (st' := []) rfl rfl (fun b110 => ?_) (fun b110 => ?_)
    · have hf := zo_lt hf b110
      refine zq_wg 2 (pc' := 26) (lv' := [some (.ref a0), some (.int a1), none, none]) (st' := [.int (1 : Int32)]) (h' := h) rfl ?_
      exact kg26_10 _ hf
    · have hf := zo_lf hf b110
      refine zq_wg 1 (pc' := 26) (lv' := [some (.ref a0), some (.int a1), none, none]) (st' := [.int (0 : Int32)]) (h' := h) rfl ?_
      exact kg26_10 _ hf
  · have hf := zo_f hf b3
    exact zr_rv rfl rfl hf
def zm_all_grp (sc : zX) : Nat → Nat → Nat → Int32 → zH → Option (Unit × zH)
  | 0, _, _, _, _ => none
  | n + 1, s, a0, a1, h => if s = 0 then zm_all_b sc (zm_all_grp sc n) a0 a1 h else if s = 1 then zm_test_b sc (zm_all_grp sc n) a0 a1 h else if s = 2 then zm_sums_b sc (zm_all_grp sc n) a0 a1 h else if s = 3 then zm_products_b sc (zm_all_grp sc n) a0 a1 h else zm_takePart_b sc (zm_all_grp sc n) a0 a1 h
theorem zm_all_grp_ok (sc : zX) : ∀ (n d : Nat) (hd : n + 2 ≤ d) (s : Nat) (a0 : Nat) (a1 : Int32) (h : zH) (ro_ : Unit) (ho_ : zH) (hf : zm_all_grp sc n s a0 a1 h = some (ro_, ho_)), zq_wm sc d (if s = 0 then 176 else if s = 1 then 177 else if s = 2 then 178 else if s = 3 then 179 else 180) [.ref a0, .int a1] h (none, ho_) := by
  intro n
  induction n with
  | zero => intro d hd s a0 a1 h ro_ ho_ hf; cases hf
  | succ n ih =>
    intro d hd s a0 a1 h ro_ ho_ hf
    obtain ⟨d, rfl⟩ : ∃ d', d = d' + 1 := ⟨d - 1, by omega⟩
    have hrec := ih d (by omega)
    have hf2 : (if s = 0 then zm_all_b sc (zm_all_grp sc n) a0 a1 h else if s = 1 then zm_test_b sc (zm_all_grp sc n) a0 a1 h else if s = 2 then zm_sums_b sc (zm_all_grp sc n) a0 a1 h else if s = 3 then zm_products_b sc (zm_all_grp sc n) a0 a1 h else zm_takePart_b sc (zm_all_grp sc n) a0 a1 h) = some (ro_, ho_) := hf
    by_cases hs0 : s = 0
    · rw [if_pos hs0] at hf2 ⊢
      exact zm_all_bok sc d (by omega) (zm_all_grp sc n) hrec a0 a1 h ro_ ho_ hf2
    rw [if_neg hs0] at hf2 ⊢
    by_cases hs1 : s = 1
    · rw [if_pos hs1] at hf2 ⊢
      exact zm_test_bok sc d (by omega) (zm_all_grp sc n) hrec a0 a1 h ro_ ho_ hf2
    rw [if_neg hs1] at hf2 ⊢
    by_cases hs2 : s = 2
    · rw [if_pos hs2] at hf2 ⊢
      exact zm_sums_bok sc d (by omega) (zm_all_grp sc n) hrec a0 a1 h ro_ ho_ hf2
    rw [if_neg hs2] at hf2 ⊢
    by_cases hs3 : s = 3
    · rw [if_pos hs3] at hf2 ⊢
      exact zm_products_bok sc d (by omega) (zm_all_grp sc n) hrec a0 a1 h ro_ ho_ hf2
    rw [if_neg hs3] at hf2 ⊢
    exact zm_takePart_bok sc d (by omega) (zm_all_grp sc n) hrec a0 a1 h ro_ ho_ hf2
def zm_all (sc : zX) (n : Nat) (a0 : Nat) (a1 : Int32) (h : zH) : Option (Unit × zH) := zm_all_grp sc n 0 a0 a1 h
theorem zm_all_ok (sc : zX) (n d : Nat) (hd : n + 2 ≤ d) {a0 : Nat} {a1 : Int32} {h : zH} {ro_ : Unit} {ho_ : zH} (hf : zm_all sc n a0 a1 h = some (ro_, ho_)) : zq_wm sc d 176 [.ref a0, .int a1] h (none, ho_) := zm_all_grp_ok sc n d hd 0 a0 a1 h ro_ ho_ hf
def zm_test (sc : zX) (n : Nat) (a0 : Nat) (a1 : Int32) (h : zH) : Option (Unit × zH) := zm_all_grp sc n 1 a0 a1 h
theorem zm_test_ok (sc : zX) (n d : Nat) (hd : n + 2 ≤ d) {a0 : Nat} {a1 : Int32} {h : zH} {ro_ : Unit} {ho_ : zH} (hf : zm_test sc n a0 a1 h = some (ro_, ho_)) : zq_wm sc d 177 [.ref a0, .int a1] h (none, ho_) := zm_all_grp_ok sc n d hd 1 a0 a1 h ro_ ho_ hf
def zm_sums (sc : zX) (n : Nat) (a0 : Nat) (a1 : Int32) (h : zH) : Option (Unit × zH) := zm_all_grp sc n 2 a0 a1 h
theorem zm_sums_ok (sc : zX) (n d : Nat) (hd : n + 2 ≤ d) {a0 : Nat} {a1 : Int32} {h : zH} {ro_ : Unit} {ho_ : zH} (hf : zm_sums sc n a0 a1 h = some (ro_, ho_)) : zq_wm sc d 178 [.ref a0, .int a1] h (none, ho_) := zm_all_grp_ok sc n d hd 2 a0 a1 h ro_ ho_ hf
def zm_products (sc : zX) (n : Nat) (a0 : Nat) (a1 : Int32) (h : zH) : Option (Unit × zH) := zm_all_grp sc n 3 a0 a1 h
theorem zm_products_ok (sc : zX) (n d : Nat) (hd : n + 2 ≤ d) {a0 : Nat} {a1 : Int32} {h : zH} {ro_ : Unit} {ho_ : zH} (hf : zm_products sc n a0 a1 h = some (ro_, ho_)) : zq_wm sc d 179 [.ref a0, .int a1] h (none, ho_) := zm_all_grp_ok sc n d hd 3 a0 a1 h ro_ ho_ hf
def zm_takePart (sc : zX) (n : Nat) (a0 : Nat) (a1 : Int32) (h : zH) : Option (Unit × zH) := zm_all_grp sc n 4 a0 a1 h
theorem zm_takePart_ok (sc : zX) (n d : Nat) (hd : n + 2 ≤ d) {a0 : Nat} {a1 : Int32} {h : zH} {ro_ : Unit} {ho_ : zH} (hf : zm_takePart sc n a0 a1 h = some (ro_, ho_)) : zq_wm sc d 180 [.ref a0, .int a1] h (none, ho_) := zm_all_grp_ok sc n d hd 4 a0 a1 h ro_ ho_ hf
