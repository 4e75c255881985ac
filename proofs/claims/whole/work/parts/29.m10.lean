/-! methods as functions, and their walks; printed by wip/whole/decomp.py -/
set_option maxRecDepth 4000 in
def zm_wayBy (sc : zX) (a0 : Nat) (a1 : Int32) (a2 : Int32) (a3 : Int32) (a4 : Int32) (h : zH) : Option (Int32 × zH) := zo_v h a0 10 (zm_goesBy sc a0 a1 a2 a3 h) (fun v2 h1 => zo_v h1 a0 10 (zm_goesBy sc a0 a2 a1 a4 h1) (fun v6 h5 => some ((v2 - v6), h5)))
set_option maxRecDepth 4000 in
theorem zm_wayBy_ok (sc : zX) (d : Nat) (hd : 3 ≤ d) {a0 : Nat} {a1 : Int32} {a2 : Int32} {a3 : Int32} {a4 : Int32} {h : zH} {ro_ : Int32} {ho_ : zH} (hf : zm_wayBy sc a0 a1 a2 a3 a4 h = some (ro_, ho_)) : zq_wm sc d 261 [.ref a0, .int a1, .int a2, .int a3, .int a4] h (some (.int ro_), ho_) := by
  unfold zm_wayBy at hf
  obtain ⟨d, rfl⟩ : ∃ d', d = d' + 1 := ⟨d - 1, by omega⟩
  have hd : 2 ≤ d := by omega
  show zq_wp sc (d + 1) 261 0 [some (.ref a0), some (.int a1), some (.int a2), some (.int a3), some (.int a4)] [] h _
  refine zq_wg 4 (pc' := 4) (lv' := [some (.ref a0), some (.int a1), some (.int a2), some (.int a3), some (.int a4)]) (st' := [.int a3, .int a2, .int a1, .ref a0]) (h' := h) rfl ?_
  obtain ⟨e4, v2, h1, e3, hf⟩ := zo_v_s hf
  refine zr_cv zq_m218 [.int a1, .int a2, .int a3] [] rfl rfl rfl rfl rfl (Nat.le_of_ble_eq_true rfl) (Nat.le_of_ble_eq_true rfl) e4 (zm_goesBy_ok sc d (by omega) e3) ?_
  refine zq_wg 0 (pc' := 7) (lv' := [some (.ref a0), some (.int a1), some (.int a2), some (.int a3), some (.int a4)]) (st' := [.int v2]) (h' := h1) rfl ?_
  refine zq_wg 4 (pc' := 12) (lv' := [some (.ref a0), some (.int a1), some (.int a2), some (.int a3), some (.int a4)]) (st' := [.int a4, .int a1, .int a2, .ref a0, .int v2]) (h' := h1) rfl ?_
  obtain ⟨e8, v6, h5, e7, hf⟩ := zo_v_s hf
  refine zr_cv zq_m218 [.int a2, .int a1, .int a4] [.int v2] rfl rfl rfl rfl rfl (Nat.le_of_ble_eq_true rfl) (Nat.le_of_ble_eq_true rfl) e8 (zm_goesBy_ok sc d (by omega) e7) ?_
  refine zq_wg 0 (pc' := 15) (lv' := [some (.ref a0), some (.int a1), some (.int a2), some (.int a3), some (.int a4)]) (st' := [.int v6, .int v2]) (h' := h5) rfl ?_
  refine zq_wg 1 (pc' := 16) (lv' := [some (.ref a0), some (.int a1), some (.int a2), some (.int a3), some (.int a4)]) (st' := [.int (v2 - v6)]) (h' := h5) rfl ?_
  exact zr_ri rfl rfl rfl hf
set_option maxRecDepth 4000 in
def zm_rests_l43 (sc : zX) : Nat → Nat → Int32 → Int32 → Int32 → Int32 → Int32 → Int32 → Int32 → zH → (Nat → Int32 → Int32 → Int32 → Int32 → zH → Option (Int32 × zH)) → Option (Int32 × zH)
  | 0, _, _, _, _, _, _, _, _, _, _ => none
  | n + 1, y12, y13, y14, y15, y16, y17, y18, y19, h20, k160 => if (4 : Int32) ≤ y19 then (k160 y12 y15 y16 y17 y18 h20) else (if y18 = 0 then (k160 y12 y15 y16 y17 y18 h20) else (zo_b (zo_dv y19 (2 : Int32)) (fun v23 => zo_b (zo_rm y19 (2 : Int32)) (fun v25 => zo_v h20 y12 10 (zm_wayBy sc y12 y13 y14 v23 v25 h20) (fun v28 h27 => zo_b (zo_dv y19 (2 : Int32)) (fun v31 => zo_b (zo_rm y19 (2 : Int32)) (fun v33 => zo_v h27 y12 10 (zm_wayBy sc y12 y13 y14 ((1 : Int32) - v31) v33 h27) (fun v36 h35 => zo_l (fun (x39 : Nat) (x40 : Int32) (x41 : Int32) (x42 : Int32) (x43 : Int32) (x44 : Int32) (x45 : Int32) (x46 : Int32) (x47 : Int32) (h48 : zH) => zo_l (fun (x49 : Nat) (x50 : Int32) (x51 : Int32) (x52 : Int32) (x53 : Int32) (x54 : Int32) (x55 : Int32) (x56 : Int32) (x57 : Int32) (h58 : zH) => zo_l (if x56 = 0 then (0 : Int32) else (1 : Int32)) (fun (x59 : Int32) => zm_rests_l43 sc n x49 x50 x51 x52 (x53 + x59) x57 x54 (x55 + (1 : Int32)) h58 k160)) (fun j137_58 => zo_l (fun (x61 : Nat) (x62 : Int32) (x63 : Int32) (x64 : Int32) (x65 : Int32) (x66 : Int32) (x67 : Int32) (x68 : Int32) (x69 : Int32) (h70 : zH) => j137_58 x61 x62 x63 x64 x65 x67 x68 x69 x66 h70) (fun j135_70 => if x47 = 0 then (j135_70 x39 x40 x41 x42 x43 x44 x45 x46 x47 h48) else (if x43 = x42 then (j137_58 x39 x40 x41 x42 x43 x45 x46 x47 x46 h48) else (j135_70 x39 x40 x41 x42 x43 x44 x45 x46 x47 h48))))) (fun j117_48 => zo_l (fun (x73 : Nat) (x74 : Int32) (x75 : Int32) (x76 : Int32) (x77 : Int32) (x78 : Int32) (x79 : Int32) (x80 : Int32) (h81 : zH) => j117_48 x73 x74 x75 x76 x77 x78 x79 x80 (0 : Int32) h81) (fun j116_81 => if v28 < v36 then (j116_81 y12 y13 y14 y15 y16 y17 y18 y19 h35) else (zo_b (zo_dv y19 (2 : Int32)) (fun v83 => zo_b (zo_rm y19 (2 : Int32)) (fun v85 => zo_v h35 y12 10 (zm_wayBy sc y12 y13 y14 v83 ((1 : Int32) - v85) h35) (fun v88 h87 => if v88 < v28 then (j116_81 y12 y13 y14 y15 y16 y17 y18 y19 h87) else (j117_48 y12 y13 y14 y15 y16 y17 y18 y19 (1 : Int32) h87)))))))))))))))
set_option maxRecDepth 4000 in
def zm_rests (sc : zX) (a0 : Nat) (a1 : Int32) (a2 : Int32) (a3 : Int32) (h : zH) : Option (Int32 × zH) := zo_c (zm_within sc a1 (0 : Int32) (999 : Int32) h) (fun v2 h1 => zo_l (fun (x4 : Nat) (x5 : Int32) (x6 : Int32) (x7 : Int32) (x8 : Int32) (x9 : Int32) (x10 : Int32) (h11 : zH) => zm_rests_l43 sc zo_F x4 x5 x6 x7 x8 x9 x10 (0 : Int32) h11 (fun (x92 : Nat) (x93 : Int32) (x94 : Int32) (x95 : Int32) (x96 : Int32) (h97 : zH) => zo_l (fun (x98 : Nat) (x99 : Int32) (x100 : Int32) (x101 : Int32) (x102 : Nat) (x103 : Int32) (h104 : zH) => zo_b (zo_pI h104 10 x102 0 x103) (fun h105 => zo_b (zo_gI h105 10 x98 0) (fun v107 => if v107 ≤ 0 then (if 0 ≤ x99 then (some (x101, h105)) else (some (x100, h105))) else (some ((0 : Int32), h105))))) (fun j180_104 => zo_l (fun (x111 : Nat) (x112 : Int32) (x113 : Int32) (x114 : Int32) (x115 : Nat) (h116 : zH) => j180_104 x111 x112 x113 x114 x115 (1 : Int32) h116) (fun j179_116 => if x96 = 0 then (j179_116 x92 x93 x94 x95 x92 h97) else (zo_l (fun (x118 : Nat) (x119 : Int32) (x120 : Int32) (x121 : Int32) (x122 : Nat) (h123 : zH) => j180_104 x118 x119 x120 x121 x122 (0 : Int32) h123) (fun j175_123 => if x93 < 0 then (j175_123 x92 x93 x94 x95 x92 h97) else (if x95 < 0 then (j179_116 x92 x93 x94 x95 x92 h97) else (j175_123 x92 x93 x94 x95 x92 h97)))))))) (fun j38_11 => zo_l (fun (x126 : Nat) (x127 : Int32) (x128 : Int32) (x129 : Int32) (x130 : Int32) (x131 : Int32) (h132 : zH) => j38_11 x126 x127 x128 x129 x130 x131 (0 : Int32) h132) (fun j37_132 => if v2 = 0 then (j37_132 a0 a1 a2 a3 (0 : Int32) (-1 : Int32) h1) else (zo_c (zm_within sc a2 (0 : Int32) (999 : Int32) h1) (fun v135 h134 => if v135 = 0 then (j37_132 a0 a1 a2 a3 (0 : Int32) (-1 : Int32) h134) else (if a3 < (-1 : Int32) then (j37_132 a0 a1 a2 a3 (0 : Int32) (-1 : Int32) h134) else (j38_11 a0 a1 a2 a3 (0 : Int32) (-1 : Int32) (1 : Int32) h134)))))))
set_option maxRecDepth 4000 in
theorem zm_rests_l43_ok (sc : zX) (d : Nat) (hd : 3 ≤ d) : ∀ (n : Nat) (y12 : Nat) (y13 : Int32) (y14 : Int32) (y15 : Int32) (y16 : Int32) (y17 : Int32) (y18 : Int32) (y19 : Int32) (h20 : zH) (k160 : Nat → Int32 → Int32 → Int32 → Int32 → zH → Option (Int32 × zH)) (ro_ : Int32) (ho_ : zH), (∀ (z0 : Nat) (z1 : Int32) (z2 : Int32) (z3 : Int32) (z4 : Int32) (hz : zH), k160 z0 z1 z2 z3 z4 hz = some (ro_, ho_) → zq_wp sc (d + 1) 260 160 [some (.ref z0), none, none, some (.int z1), some (.int z2), some (.int z3), some (.int z4), none, none, none] [] hz (some (.int ro_), ho_)) → zm_rests_l43 sc n y12 y13 y14 y15 y16 y17 y18 y19 h20 k160 = some (ro_, ho_) → zq_wp sc (d + 1) 260 43 [some (.ref y12), some (.int y13), some (.int y14), some (.int y15), some (.int y16), some (.int y17), some (.int y18), some (.int y19), none, none] [] h20 (some (.int ro_), ho_) := by
  intro n
  induction n with
  | zero => intro y12 y13 y14 y15 y16 y17 y18 y19 h20 k160 ro_ ho_ hk160 hf; cases hf
  | succ n ih =>
    intro y12 y13 y14 y15 y16 y17 y18 y19 h20 k160 ro_ ho_ hk160 hf
    refine zq_wg 2 (pc' := 46) (lv' := [some (.ref y12), some (.int y13), some (.int y14), some (.int y15), some (.int y16), some (.int y17), some (.int y18), some (.int y19), none, none]) (st' := [.int (4 : Int32), .int y19]) (h' := h20) rfl ?_
    refine zr_if ((4 : Int32) ≤ y19) 160 49 (st' := []) rfl rfl (fun b21 => ?_) (fun b21 => ?_)
    · have hf := zo_t hf b21
      refine zq_fg [some (.ref y12), none, none, some (.int y15), some (.int y16), some (.int y17), some (.int y18), none, none, none] (zq_lvle_s (zq_lvle_n (zq_lvle_n (zq_lvle_s (zq_lvle_s (zq_lvle_s (zq_lvle_s (zq_lvle_n (zq_lvle_s (zq_lvle_s zq_lvle_nil)))))))))) ?_
      exact hk160 y12 y15 y16 y17 y18 h20 hf
    · have hf := zo_f hf b21
      refine zq_wg 1 (pc' := 51) (lv' := [some (.ref y12), some (.int y13), some (.int y14), some (.int y15), some (.int y16), some (.int y17), some (.int y18), some (.int y19), none, none]) (st' := [.int y18]) (h' := h20) rfl ?_
      refine zr_if (y18 = 0) 160 54 (st' := []) rfl rfl (fun b22 => ?_) (fun b22 => ?_)
      · have hf := zo_t hf b22
        refine zq_fg [some (.ref y12), none, none, some (.int y15), some (.int y16), some (.int y17), some (.int y18), none, none, none] (zq_lvle_s (zq_lvle_n (zq_lvle_n (zq_lvle_s (zq_lvle_s (zq_lvle_s (zq_lvle_s (zq_lvle_n (zq_lvle_s (zq_lvle_s zq_lvle_nil)))))))))) ?_
        exact hk160 y12 y15 y16 y17 y18 h20 hf
      · have hf := zo_f hf b22
        refine zq_wg 5 (pc' := 60) (lv' := [some (.ref y12), some (.int y13), some (.int y14), some (.int y15), some (.int y16), some (.int y17), some (.int y18), some (.int y19), none, none]) (st' := [.int (2 : Int32), .int y19, .int y14, .int y13, .ref y12]) (h' := h20) rfl ?_
        obtain ⟨v23, e24, hf⟩ := zo_b_s hf
        refine zr_idiv rfl e24 ?_
        refine zq_wg 2 (pc' := 64) (lv' := [some (.ref y12), some (.int y13), some (.int y14), some (.int y15), some (.int y16), some (.int y17), some (.int y18), some (.int y19), none, none]) (st' := [.int (2 : Int32), .int y19, .int v23, .int y14, .int y13, .ref y12]) (h' := h20) rfl ?_
        obtain ⟨v25, e26, hf⟩ := zo_b_s hf
        refine zr_irem rfl e26 ?_
        obtain ⟨e30, v28, h27, e29, hf⟩ := zo_v_s hf
        refine zr_cv zq_m261 [.int y13, .int y14, .int v23, .int v25] [] rfl rfl rfl rfl rfl (Nat.le_of_ble_eq_true rfl) (Nat.le_of_ble_eq_true rfl) e30 (zm_wayBy_ok sc d (by omega) e29) ?_
        refine zq_wg 0 (pc' := 68) (lv' := [some (.ref y12), some (.int y13), some (.int y14), some (.int y15), some (.int y16), some (.int y17), some (.int y18), some (.int y19), none, none]) (st' := [.int v28]) (h' := h27) rfl ?_
        refine zq_wg 7 (pc' := 77) (lv' := [some (.ref y12), some (.int y13), some (.int y14), some (.int y15), some (.int y16), some (.int y17), some (.int y18), some (.int y19), some (.int v28), none]) (st' := [.int (2 : Int32), .int y19, .int (1 : Int32), .int y14, .int y13, .ref y12]) (h' := h27) rfl ?_
        obtain ⟨v31, e32, hf⟩ := zo_b_s hf
        refine zr_idiv rfl e32 ?_
        refine zq_wg 3 (pc' := 82) (lv' := [some (.ref y12), some (.int y13), some (.int y14), some (.int y15), some (.int y16), some (.int y17), some (.int y18), some (.int y19), some (.int v28), none]) (st' := [.int (2 : Int32), .int y19, .int ((1 : Int32) - v31), .int y14, .int y13, .ref y12]) (h' := h27) rfl ?_
        obtain ⟨v33, e34, hf⟩ := zo_b_s hf
        refine zr_irem rfl e34 ?_
        obtain ⟨e38, v36, h35, e37, hf⟩ := zo_v_s hf
        refine zr_cv zq_m261 [.int y13, .int y14, .int ((1 : Int32) - v31), .int v33] [] rfl rfl rfl rfl rfl (Nat.le_of_ble_eq_true rfl) (Nat.le_of_ble_eq_true rfl) e38 (zm_wayBy_ok sc d (by omega) e37) ?_
        refine zq_wg 0 (pc' := 86) (lv' := [some (.ref y12), some (.int y13), some (.int y14), some (.int y15), some (.int y16), some (.int y17), some (.int y18), some (.int y19), some (.int v28), none]) (st' := [.int v36]) (h' := h35) rfl ?_
        refine zq_wg 1 (pc' := 88) (lv' := [some (.ref y12), some (.int y13), some (.int y14), some (.int y15), some (.int y16), some (.int y17), some (.int y18), some (.int y19), some (.int v28), none]) (st' := [.int v28, .int v36]) (h' := h35) rfl ?_
        obtain ⟨j117_48, hjj117_48, hf⟩ := zo_lj hf
        have kj117_48 : ∀ (x39 : Nat) (x40 : Int32) (x41 : Int32) (x42 : Int32) (x43 : Int32) (x44 : Int32) (x45 : Int32) (x46 : Int32) (x47 : Int32) (h48 : zH), j117_48 x39 x40 x41 x42 x43 x44 x45 x46 x47 h48 = some (ro_, ho_) → zq_wp sc (d + 1) 260 117 [some (.ref x39), some (.int x40), some (.int x41), some (.int x42), some (.int x43), some (.int x44), some (.int x45), some (.int x46), none, none] [.int x47] h48 (some (.int ro_), ho_) := by
          intro x39 x40 x41 x42 x43 x44 x45 x46 x47 h48 hf
          rw [hjj117_48] at hf
          refine zq_wg 2 (pc' := 121) (lv' := [some (.ref x39), some (.int x40), some (.int x41), some (.int x42), some (.int x43), some (.int x44), some (.int x45), some (.int x46), none, some (.int x47)]) (st' := [.int x47]) (h' := h48) rfl ?_
          obtain ⟨j137_58, hjj137_58, hf⟩ := zo_lj hf
          have kj137_58 : ∀ (x49 : Nat) (x50 : Int32) (x51 : Int32) (x52 : Int32) (x53 : Int32) (x54 : Int32) (x55 : Int32) (x56 : Int32) (x57 : Int32) (h58 : zH), j137_58 x49 x50 x51 x52 x53 x54 x55 x56 x57 h58 = some (ro_, ho_) → zq_wp sc (d + 1) 260 137 [some (.ref x49), some (.int x50), some (.int x51), some (.int x52), some (.int x53), none, some (.int x54), some (.int x55), none, some (.int x56)] [.int x57] h58 (some (.int ro_), ho_) := by
            intro x49 x50 x51 x52 x53 x54 x55 x56 x57 h58 hf
            rw [hjj137_58] at hf
            refine zq_wg 3 (pc' := 143) (lv' := [some (.ref x49), some (.int x50), some (.int x51), some (.int x52), some (.int x53), some (.int x57), some (.int x54), some (.int x55), none, some (.int x56)]) (st' := [.int x56, .int x53]) (h' := h58) rfl ?_
            obtain ⟨g151_59, hg151_59, hf⟩ := zo_lx hf
            have kg151_59 : ∀ (x59 : Int32), g151_59 x59 = some (ro_, ho_) → zq_wp sc (d + 1) 260 151 [some (.ref x49), some (.int x50), some (.int x51), some (.int x52), some (.int x53), some (.int x57), some (.int x54), some (.int x55), none, some (.int x56)] [.int x59, .int x53] h58 (some (.int ro_), ho_) := by
              intro x59 hf
              rw [hg151_59] at hf
              refine zq_wg 4 (pc' := 43) (lv' := [some (.ref x49), some (.int x50), some (.int x51), some (.int x52), some (.int (x53 + x59)), some (.int x57), some (.int x54), some (.int (x55 + (1 : Int32))), none, some (.int x56)]) (st' := []) (h' := h58) rfl ?_
              refine zq_fg [some (.ref x49), some (.int x50), some (.int x51), some (.int x52), some (.int (x53 + x59)), some (.int x57), some (.int x54), some (.int (x55 + (1 : Int32))), none, none] (zq_lvle_s (zq_lvle_s (zq_lvle_s (zq_lvle_s (zq_lvle_s (zq_lvle_s (zq_lvle_s (zq_lvle_s (zq_lvle_s (zq_lvle_n zq_lvle_nil)))))))))) ?_
              exact ih x49 x50 x51 x52 (x53 + x59) x57 x54 (x55 + (1 : Int32)) h58 _ _ _ hk160 hf
            refine zr_if (x56 = 0) 150 146 (st' := [.int x53]) rfl rfl (fun b60 => ?_) (fun b60 => ?_)
            · have hf := zo_lt hf b60
              refine zq_wg 1 (pc' := 151) (lv' := [some (.ref x49), some (.int x50), some (.int x51), some (.int x52), some (.int x53), some (.int x57), some (.int x54), some (.int x55), none, some (.int x56)]) (st' := [.int (0 : Int32), .int x53]) (h' := h58) rfl ?_
              exact kg151_59 _ hf
            · have hf := zo_lf hf b60
              refine zq_wg 2 (pc' := 151) (lv' := [some (.ref x49), some (.int x50), some (.int x51), some (.int x52), some (.int x53), some (.int x57), some (.int x54), some (.int x55), none, some (.int x56)]) (st' := [.int (1 : Int32), .int x53]) (h' := h58) rfl ?_
              exact kg151_59 _ hf
          obtain ⟨j135_70, hjj135_70, hf⟩ := zo_lj hf
          have kj135_70 : ∀ (x61 : Nat) (x62 : Int32) (x63 : Int32) (x64 : Int32) (x65 : Int32) (x66 : Int32) (x67 : Int32) (x68 : Int32) (x69 : Int32) (h70 : zH), j135_70 x61 x62 x63 x64 x65 x66 x67 x68 x69 h70 = some (ro_, ho_) → zq_wp sc (d + 1) 260 135 [some (.ref x61), some (.int x62), some (.int x63), some (.int x64), some (.int x65), some (.int x66), some (.int x67), some (.int x68), none, some (.int x69)] [] h70 (some (.int ro_), ho_) := by
            intro x61 x62 x63 x64 x65 x66 x67 x68 x69 h70 hf
            rw [hjj135_70] at hf
            refine zq_wg 1 (pc' := 137) (lv' := [some (.ref x61), some (.int x62), some (.int x63), some (.int x64), some (.int x65), some (.int x66), some (.int x67), some (.int x68), none, some (.int x69)]) (st' := [.int x66]) (h' := h70) rfl ?_
            refine zq_fg [some (.ref x61), some (.int x62), some (.int x63), some (.int x64), some (.int x65), none, some (.int x67), some (.int x68), none, some (.int x69)] (zq_lvle_s (zq_lvle_s (zq_lvle_s (zq_lvle_s (zq_lvle_s (zq_lvle_n (zq_lvle_s (zq_lvle_s (zq_lvle_s (zq_lvle_s zq_lvle_nil)))))))))) ?_
            exact kj137_58 x61 x62 x63 x64 x65 x67 x68 x69 x66 h70 hf
          refine zr_if (x47 = 0) 135 124 (st' := []) rfl rfl (fun b71 => ?_) (fun b71 => ?_)
          · have hf := zo_t hf b71
            exact kj135_70 x39 x40 x41 x42 x43 x44 x45 x46 x47 h48 hf
          · have hf := zo_f hf b71
            refine zq_wg 2 (pc' := 127) (lv' := [some (.ref x39), some (.int x40), some (.int x41), some (.int x42), some (.int x43), some (.int x44), some (.int x45), some (.int x46), none, some (.int x47)]) (st' := [.int x42, .int x43]) (h' := h48) rfl ?_
            refine zr_if (x43 = x42) 130 135 (st' := []) rfl rfl (fun b72 => ?_) (fun b72 => ?_)
            · have hf := zo_t hf b72
              refine zq_wg 2 (pc' := 137) (lv' := [some (.ref x39), some (.int x40), some (.int x41), some (.int x42), some (.int x43), some (.int x44), some (.int x45), some (.int x46), none, some (.int x47)]) (st' := [.int x46]) (h' := h48) rfl ?_
              refine zq_fg [some (.ref x39), some (.int x40), some (.int x41), some (.int x42), some (.int x43), none, some (.int x45), some (.int x46), none, some (.int x47)] (zq_lvle_s (zq_lvle_s (zq_lvle_s (zq_lvle_s (zq_lvle_s (zq_lvle_n (zq_lvle_s (zq_lvle_s (zq_lvle_s (zq_lvle_s zq_lvle_nil)))))))))) ?_
              exact kj137_58 x39 x40 x41 x42 x43 x45 x46 x47 x46 h48 hf
            · have hf := zo_f hf b72
              exact kj135_70 x39 x40 x41 x42 x43 x44 x45 x46 x47 h48 hf
        obtain ⟨j116_81, hjj116_81, hf⟩ := zo_lj hf
        have kj116_81 : ∀ (x73 : Nat) (x74 : Int32) (x75 : Int32) (x76 : Int32) (x77 : Int32) (x78 : Int32) (x79 : Int32) (x80 : Int32) (h81 : zH), j116_81 x73 x74 x75 x76 x77 x78 x79 x80 h81 = some (ro_, ho_) → zq_wp sc (d + 1) 260 116 [some (.ref x73), some (.int x74), some (.int x75), some (.int x76), some (.int x77), some (.int x78), some (.int x79), some (.int x80), none, none] [] h81 (some (.int ro_), ho_) := by
          intro x73 x74 x75 x76 x77 x78 x79 x80 h81 hf
          rw [hjj116_81] at hf
          refine zq_wg 1 (pc' := 117) (lv' := [some (.ref x73), some (.int x74), some (.int x75), some (.int x76), some (.int x77), some (.int x78), some (.int x79), some (.int x80), none, none]) (st' := [.int (0 : Int32)]) (h' := h81) rfl ?_
          exact kj117_48 x73 x74 x75 x76 x77 x78 x79 x80 (0 : Int32) h81 hf
        refine zr_if (v28 < v36) 116 91 (st' := []) rfl rfl (fun b82 => ?_) (fun b82 => ?_)
        · have hf := zo_t hf b82
          refine zq_fg [some (.ref y12), some (.int y13), some (.int y14), some (.int y15), some (.int y16), some (.int y17), some (.int y18), some (.int y19), none, none] (zq_lvle_s (zq_lvle_s (zq_lvle_s (zq_lvle_s (zq_lvle_s (zq_lvle_s (zq_lvle_s (zq_lvle_s (zq_lvle_n (zq_lvle_s zq_lvle_nil)))))))))) ?_
          exact kj116_81 y12 y13 y14 y15 y16 y17 y18 y19 h35 hf
        · have hf := zo_f hf b82
          refine zq_wg 5 (pc' := 97) (lv' := [some (.ref y12), some (.int y13), some (.int y14), some (.int y15), some (.int y16), some (.int y17), some (.int y18), some (.int y19), some (.int v28), none]) (st' := [.int (2 : Int32), .int y19, .int y14, .int y13, .ref y12]) (h' := h35) rfl ?_
          obtain ⟨v83, e84, hf⟩ := zo_b_s hf
          refine zr_idiv rfl e84 ?_
          refine zq_wg 3 (pc' := 102) (lv' := [some (.ref y12), some (.int y13), some (.int y14), some (.int y15), some (.int y16), some (.int y17), some (.int y18), some (.int y19), some (.int v28), none]) (st' := [.int (2 : Int32), .int y19, .int (1 : Int32), .int v83, .int y14, .int y13, .ref y12]) (h' := h35) rfl ?_
          obtain ⟨v85, e86, hf⟩ := zo_b_s hf
          refine zr_irem rfl e86 ?_
          refine zq_wg 1 (pc' := 104) (lv' := [some (.ref y12), some (.int y13), some (.int y14), some (.int y15), some (.int y16), some (.int y17), some (.int y18), some (.int y19), some (.int v28), none]) (st' := [.int ((1 : Int32) - v85), .int v83, .int y14, .int y13, .ref y12]) (h' := h35) rfl ?_
          obtain ⟨e90, v88, h87, e89, hf⟩ := zo_v_s hf
          refine zr_cv zq_m261 [.int y13, .int y14, .int v83, .int ((1 : Int32) - v85)] [] rfl rfl rfl rfl rfl (Nat.le_of_ble_eq_true rfl) (Nat.le_of_ble_eq_true rfl) e90 (zm_wayBy_ok sc d (by omega) e89) ?_
          refine zq_wg 0 (pc' := 107) (lv' := [some (.ref y12), some (.int y13), some (.int y14), some (.int y15), some (.int y16), some (.int y17), some (.int y18), some (.int y19), some (.int v28), none]) (st' := [.int v88]) (h' := h87) rfl ?_
          refine zq_wg 1 (pc' := 109) (lv' := [some (.ref y12), some (.int y13), some (.int y14), some (.int y15), some (.int y16), some (.int y17), some (.int y18), some (.int y19), some (.int v28), none]) (st' := [.int v28, .int v88]) (h' := h87) rfl ?_
          refine zr_if (v88 < v28) 116 112 (st' := []) rfl rfl (fun b91 => ?_) (fun b91 => ?_)
          · have hf := zo_t hf b91
            refine zq_fg [some (.ref y12), some (.int y13), some (.int y14), some (.int y15), some (.int y16), some (.int y17), some (.int y18), some (.int y19), none, none] (zq_lvle_s (zq_lvle_s (zq_lvle_s (zq_lvle_s (zq_lvle_s (zq_lvle_s (zq_lvle_s (zq_lvle_s (zq_lvle_n (zq_lvle_s zq_lvle_nil)))))))))) ?_
            exact kj116_81 y12 y13 y14 y15 y16 y17 y18 y19 h87 hf
          · have hf := zo_f hf b91
            refine zq_wg 2 (pc' := 117) (lv' := [some (.ref y12), some (.int y13), some (.int y14), some (.int y15), some (.int y16), some (.int y17), some (.int y18), some (.int y19), some (.int v28), none]) (st' := [.int (1 : Int32)]) (h' := h87) rfl ?_
            refine zq_fg [some (.ref y12), some (.int y13), some (.int y14), some (.int y15), some (.int y16), some (.int y17), some (.int y18), some (.int y19), none, none] (zq_lvle_s (zq_lvle_s (zq_lvle_s (zq_lvle_s (zq_lvle_s (zq_lvle_s (zq_lvle_s (zq_lvle_s (zq_lvle_n (zq_lvle_s zq_lvle_nil)))))))))) ?_
            exact kj117_48 y12 y13 y14 y15 y16 y17 y18 y19 (1 : Int32) h87 hf
set_option maxRecDepth 4000 in
theorem zm_rests_ok (sc : zX) (d : Nat) (hd : 4 ≤ d) {a0 : Nat} {a1 : Int32} {a2 : Int32} {a3 : Int32} {h : zH} {ro_ : Int32} {ho_ : zH} (hf : zm_rests sc a0 a1 a2 a3 h = some (ro_, ho_)) : zq_wm sc d 260 [.ref a0, .int a1, .int a2, .int a3] h (some (.int ro_), ho_) := by
  unfold zm_rests at hf
  obtain ⟨d, rfl⟩ : ∃ d', d = d' + 1 := ⟨d - 1, by omega⟩
  have hd : 3 ≤ d := by omega
  show zq_wp sc (d + 1) 260 0 [some (.ref a0), some (.int a1), some (.int a2), some (.int a3), none, none, none, none, none, none] [] h _
  refine zq_wg 7 (pc' := 11) (lv' := [some (.ref a0), some (.int a1), some (.int a2), some (.int a3), some (.int (0 : Int32)), some (.int (-1 : Int32)), none, none, none, none]) (st' := [.int (999 : Int32), .int (0 : Int32), .int a1]) (h' := h) rfl ?_
  obtain ⟨v2, h1, e3, hf⟩ := zo_c_s hf
  refine zr_cs zq_m173 [.int a1, .int (0 : Int32), .int (999 : Int32)] [] rfl rfl (by decide) rfl rfl rfl (Nat.le_of_ble_eq_true rfl) (Nat.le_of_ble_eq_true rfl) (zm_within_ok sc d (by omega) e3) ?_
  refine zq_wg 0 (pc' := 14) (lv' := [some (.ref a0), some (.int a1), some (.int a2), some (.int a3), some (.int (0 : Int32)), some (.int (-1 : Int32)), none, none, none, none]) (st' := [.int v2]) (h' := h1) rfl ?_
  obtain ⟨j38_11, hjj38_11, hf⟩ := zo_lj hf
  have kj38_11 : ∀ (x4 : Nat) (x5 : Int32) (x6 : Int32) (x7 : Int32) (x8 : Int32) (x9 : Int32) (x10 : Int32) (h11 : zH), j38_11 x4 x5 x6 x7 x8 x9 x10 h11 = some (ro_, ho_) → zq_wp sc (d + 1) 260 38 [some (.ref x4), some (.int x5), some (.int x6), some (.int x7), some (.int x8), some (.int x9), none, none, none, none] [.int x10] h11 (some (.int ro_), ho_) := by
    intro x4 x5 x6 x7 x8 x9 x10 h11 hf
    rw [hjj38_11] at hf
    refine zq_wg 3 (pc' := 43) (lv' := [some (.ref x4), some (.int x5), some (.int x6), some (.int x7), some (.int x8), some (.int x9), some (.int x10), some (.int (0 : Int32)), none, none]) (st' := []) (h' := h11) rfl ?_
    refine zm_rests_l43_ok sc d hd zo_F x4 x5 x6 x7 x8 x9 x10 (0 : Int32) h11 _ _ _ ?_ hf
    · intro x92 x93 x94 x95 x96 h97 hf
      refine zq_wg 2 (pc' := 163) (lv' := [some (.ref x92), none, none, some (.int x93), some (.int x94), some (.int x95), some (.int x96), none, none, none]) (st' := [.int x96, .ref x92]) (h' := h97) rfl ?_
      obtain ⟨j180_104, hjj180_104, hf⟩ := zo_lj hf
      have kj180_104 : ∀ (x98 : Nat) (x99 : Int32) (x100 : Int32) (x101 : Int32) (x102 : Nat) (x103 : Int32) (h104 : zH), j180_104 x98 x99 x100 x101 x102 x103 h104 = some (ro_, ho_) → zq_wp sc (d + 1) 260 180 [some (.ref x98), none, none, some (.int x99), some (.int x100), some (.int x101), none, none, none, none] [.int x103, .ref x102] h104 (some (.int ro_), ho_) := by
        intro x98 x99 x100 x101 x102 x103 h104 hf
        rw [hjj180_104] at hf
        obtain ⟨h105, e106, hf⟩ := zo_b_s hf
        refine zr_pI rfl rfl (by decide) rfl rfl e106 ?_
        refine zq_wg 1 (pc' := 184) (lv' := [some (.ref x98), none, none, some (.int x99), some (.int x100), some (.int x101), none, none, none, none]) (st' := [.ref x98]) (h' := h105) rfl ?_
        obtain ⟨v107, e108, hf⟩ := zo_b_s hf
        refine zr_gI rfl rfl (by decide) rfl e108 ?_
        refine zr_if (v107 ≤ 0) 194 190 (st' := []) rfl rfl (fun b109 => ?_) (fun b109 => ?_)
        · have hf := zo_t hf b109
          refine zq_wg 1 (pc' := 195) (lv' := [some (.ref x98), none, none, some (.int x99), some (.int x100), some (.int x101), none, none, none, none]) (st' := [.int x99]) (h' := h105) rfl ?_
          refine zr_if (0 ≤ x99) 203 198 (st' := []) rfl rfl (fun b110 => ?_) (fun b110 => ?_)
          · have hf := zo_t hf b110
            refine zq_wg 1 (pc' := 205) (lv' := [some (.ref x98), none, none, some (.int x99), some (.int x100), some (.int x101), none, none, none, none]) (st' := [.int x101]) (h' := h105) rfl ?_
            exact zr_ri rfl rfl rfl hf
          · have hf := zo_f hf b110
            refine zq_wg 2 (pc' := 205) (lv' := [some (.ref x98), none, none, some (.int x99), some (.int x100), some (.int x101), none, none, none, none]) (st' := [.int x100]) (h' := h105) rfl ?_
            exact zr_ri rfl rfl rfl hf
        · have hf := zo_f hf b109
          refine zq_wg 2 (pc' := 205) (lv' := [some (.ref x98), none, none, some (.int x99), some (.int x100), some (.int x101), none, none, none, none]) (st' := [.int (0 : Int32)]) (h' := h105) rfl ?_
          exact zr_ri rfl rfl rfl hf
      obtain ⟨j179_116, hjj179_116, hf⟩ := zo_lj hf
      have kj179_116 : ∀ (x111 : Nat) (x112 : Int32) (x113 : Int32) (x114 : Int32) (x115 : Nat) (h116 : zH), j179_116 x111 x112 x113 x114 x115 h116 = some (ro_, ho_) → zq_wp sc (d + 1) 260 179 [some (.ref x111), none, none, some (.int x112), some (.int x113), some (.int x114), none, none, none, none] [.ref x115] h116 (some (.int ro_), ho_) := by
        intro x111 x112 x113 x114 x115 h116 hf
        rw [hjj179_116] at hf
        refine zq_wg 1 (pc' := 180) (lv' := [some (.ref x111), none, none, some (.int x112), some (.int x113), some (.int x114), none, none, none, none]) (st' := [.int (1 : Int32), .ref x115]) (h' := h116) rfl ?_
        exact kj180_104 x111 x112 x113 x114 x115 (1 : Int32) h116 hf
      refine zr_if (x96 = 0) 179 166 (st' := [.ref x92]) rfl rfl (fun b117 => ?_) (fun b117 => ?_)
      · have hf := zo_t hf b117
        refine zq_fg [some (.ref x92), none, none, some (.int x93), some (.int x94), some (.int x95), none, none, none, none] (zq_lvle_s (zq_lvle_s (zq_lvle_s (zq_lvle_s (zq_lvle_s (zq_lvle_s (zq_lvle_n (zq_lvle_s (zq_lvle_s (zq_lvle_s zq_lvle_nil)))))))))) ?_
        exact kj179_116 x92 x93 x94 x95 x92 h97 hf
      · have hf := zo_f hf b117
        refine zq_wg 1 (pc' := 167) (lv' := [some (.ref x92), none, none, some (.int x93), some (.int x94), some (.int x95), some (.int x96), none, none, none]) (st' := [.int x93, .ref x92]) (h' := h97) rfl ?_
        obtain ⟨j175_123, hjj175_123, hf⟩ := zo_lj hf
        have kj175_123 : ∀ (x118 : Nat) (x119 : Int32) (x120 : Int32) (x121 : Int32) (x122 : Nat) (h123 : zH), j175_123 x118 x119 x120 x121 x122 h123 = some (ro_, ho_) → zq_wp sc (d + 1) 260 175 [some (.ref x118), none, none, some (.int x119), some (.int x120), some (.int x121), none, none, none, none] [.ref x122] h123 (some (.int ro_), ho_) := by
          intro x118 x119 x120 x121 x122 h123 hf
          rw [hjj175_123] at hf
          refine zq_wg 2 (pc' := 180) (lv' := [some (.ref x118), none, none, some (.int x119), some (.int x120), some (.int x121), none, none, none, none]) (st' := [.int (0 : Int32), .ref x122]) (h' := h123) rfl ?_
          exact kj180_104 x118 x119 x120 x121 x122 (0 : Int32) h123 hf
        refine zr_if (x93 < 0) 175 170 (st' := [.ref x92]) rfl rfl (fun b124 => ?_) (fun b124 => ?_)
        · have hf := zo_t hf b124
          refine zq_fg [some (.ref x92), none, none, some (.int x93), some (.int x94), some (.int x95), none, none, none, none] (zq_lvle_s (zq_lvle_s (zq_lvle_s (zq_lvle_s (zq_lvle_s (zq_lvle_s (zq_lvle_n (zq_lvle_s (zq_lvle_s (zq_lvle_s zq_lvle_nil)))))))))) ?_
          exact kj175_123 x92 x93 x94 x95 x92 h97 hf
        · have hf := zo_f hf b124
          refine zq_wg 1 (pc' := 172) (lv' := [some (.ref x92), none, none, some (.int x93), some (.int x94), some (.int x95), some (.int x96), none, none, none]) (st' := [.int x95, .ref x92]) (h' := h97) rfl ?_
          refine zr_if (x95 < 0) 179 175 (st' := [.ref x92]) rfl rfl (fun b125 => ?_) (fun b125 => ?_)
          · have hf := zo_t hf b125
            refine zq_fg [some (.ref x92), none, none, some (.int x93), some (.int x94), some (.int x95), none, none, none, none] (zq_lvle_s (zq_lvle_s (zq_lvle_s (zq_lvle_s (zq_lvle_s (zq_lvle_s (zq_lvle_n (zq_lvle_s (zq_lvle_s (zq_lvle_s zq_lvle_nil)))))))))) ?_
            exact kj179_116 x92 x93 x94 x95 x92 h97 hf
          · have hf := zo_f hf b125
            refine zq_fg [some (.ref x92), none, none, some (.int x93), some (.int x94), some (.int x95), none, none, none, none] (zq_lvle_s (zq_lvle_s (zq_lvle_s (zq_lvle_s (zq_lvle_s (zq_lvle_s (zq_lvle_n (zq_lvle_s (zq_lvle_s (zq_lvle_s zq_lvle_nil)))))))))) ?_
            exact kj175_123 x92 x93 x94 x95 x92 h97 hf
  obtain ⟨j37_132, hjj37_132, hf⟩ := zo_lj hf
  have kj37_132 : ∀ (x126 : Nat) (x127 : Int32) (x128 : Int32) (x129 : Int32) (x130 : Int32) (x131 : Int32) (h132 : zH), j37_132 x126 x127 x128 x129 x130 x131 h132 = some (ro_, ho_) → zq_wp sc (d + 1) 260 37 [some (.ref x126), some (.int x127), some (.int x128), some (.int x129), some (.int x130), some (.int x131), none, none, none, none] [] h132 (some (.int ro_), ho_) := by
    intro x126 x127 x128 x129 x130 x131 h132 hf
    rw [hjj37_132] at hf
    refine zq_wg 1 (pc' := 38) (lv' := [some (.ref x126), some (.int x127), some (.int x128), some (.int x129), some (.int x130), some (.int x131), none, none, none, none]) (st' := [.int (0 : Int32)]) (h' := h132) rfl ?_
    exact kj38_11 x126 x127 x128 x129 x130 x131 (0 : Int32) h132 hf
  refine zr_if (v2 = 0) 37 17 (st' := []) rfl rfl (fun b133 => ?_) (fun b133 => ?_)
  · have hf := zo_t hf b133
    exact kj37_132 a0 a1 a2 a3 (0 : Int32) (-1 : Int32) h1 hf
  · have hf := zo_f hf b133
    refine zq_wg 3 (pc' := 22) (lv' := [some (.ref a0), some (.int a1), some (.int a2), some (.int a3), some (.int (0 : Int32)), some (.int (-1 : Int32)), none, none, none, none]) (st' := [.int (999 : Int32), .int (0 : Int32), .int a2]) (h' := h1) rfl ?_
    obtain ⟨v135, h134, e136, hf⟩ := zo_c_s hf
    refine zr_cs zq_m173 [.int a2, .int (0 : Int32), .int (999 : Int32)] [] rfl rfl (by decide) rfl rfl rfl (Nat.le_of_ble_eq_true rfl) (Nat.le_of_ble_eq_true rfl) (zm_within_ok sc d (by omega) e136) ?_
    refine zq_wg 0 (pc' := 25) (lv' := [some (.ref a0), some (.int a1), some (.int a2), some (.int a3), some (.int (0 : Int32)), some (.int (-1 : Int32)), none, none, none, none]) (st' := [.int v135]) (h' := h134) rfl ?_
    refine zr_if (v135 = 0) 37 28 (st' := []) rfl rfl (fun b137 => ?_) (fun b137 => ?_)
    · have hf := zo_t hf b137
      exact kj37_132 a0 a1 a2 a3 (0 : Int32) (-1 : Int32) h134 hf
    · have hf := zo_f hf b137
      refine zq_wg 2 (pc' := 30) (lv' := [some (.ref a0), some (.int a1), some (.int a2), some (.int a3), some (.int (0 : Int32)), some (.int (-1 : Int32)), none, none, none, none]) (st' := [.int (-1 : Int32), .int a3]) (h' := h134) rfl ?_
      refine zr_if (a3 < (-1 : Int32)) 37 33 (st' := []) rfl rfl (fun b138 => ?_) (fun b138 => ?_)
      · have hf := zo_t hf b138
        exact kj37_132 a0 a1 a2 a3 (0 : Int32) (-1 : Int32) h134 hf
      · have hf := zo_f hf b138
        refine zq_wg 2 (pc' := 38) (lv' := [some (.ref a0), some (.int a1), some (.int a2), some (.int a3), some (.int (0 : Int32)), some (.int (-1 : Int32)), none, none, none, none]) (st' := [.int (1 : Int32)]) (h' := h134) rfl ?_
        exact kj38_11 a0 a1 a2 a3 (0 : Int32) (-1 : Int32) (1 : Int32) h134 hf
set_option maxRecDepth 4000 in
def zm_years_l153 (sc : zX) : Nat → Nat → Int32 → Int32 → Int32 → Int32 → Int32 → Int32 → Int32 → zH → (Nat → Int32 → Int32 → Int32 → Int32 → Int32 → zH → Option (Int32 × zH)) → Option (Int32 × zH)
  | 0, _, _, _, _, _, _, _, _, _, _ => none
  | n + 1, y65, y66, y67, y68, y69, y70, y71, y72, h73, k229 => zo_b (zo_gR h73 10 y65 10) (fun v74 => zo_b (zq_rdI sc h73 v74 (5 : Int32)) (fun v76 => if v76 ≤ y72 then (k229 y65 y66 y67 y68 y69 y70 h73) else (zo_b (zo_gR h73 10 y65 25) (fun v79 => zo_b (zq_rdI sc h73 v79 (881 : Int32)) (fun v81 => zo_v h73 y65 10 (zm_isEnd sc y65 v81 h73) (fun v84 h83 => if v84 = 0 then (zo_b (zo_gR h83 10 y65 25) (fun v88 => zo_b (zo_gR h83 10 y65 25) (fun v90 => zo_b (zq_rdI sc h83 v90 (881 : Int32)) (fun v92 => zo_b (zo_gR h83 10 y65 10) (fun v94 => zo_b (zq_rdI sc h83 v94 (4 : Int32)) (fun v96 => zo_b (zo_gR h83 10 y65 25) (fun v98 => zo_b (zq_rdI sc h83 v98 (882 : Int32)) (fun v100 => zo_v h83 y65 10 (zm_goesBy sc y65 y71 v96 v100 h83) (fun v103 h102 => zo_v h102 y65 10 (zm_bounded sc y65 (v92 + v103) h102) (fun v107 h106 => zo_b (zq_wrX 1 h106 v88 (881 : Int32) v107) (fun h110 => zm_years_l153 sc n y65 y66 y67 (y68 + (1 : Int32)) y69 y70 y71 (y72 + (1 : Int32)) h110 k229))))))))))) else (k229 y65 y66 y67 y68 y69 y70 h83)))))))
set_option maxRecDepth 4000 in
def zm_years_l62 (sc : zX) : Nat → Nat → Int32 → Int32 → Int32 → Int32 → Int32 → zH → (Nat → Int32 → Int32 → Int32 → zH → Option (Int32 × zH)) → Option (Int32 × zH)
  | 0, _, _, _, _, _, _, _, _ => none
  | n + 1, y21, y22, y23, y24, y25, y26, h27, k235 => if y22 ≤ y26 then (k235 y21 y23 y24 y25 h27) else (zo_v h27 y21 10 (zm_draws sc y21 (880 : Int32) h27) (fun w30 h29 => zo_v h29 y21 10 (zm_posts sc y21 h29) (fun v34 h33 => zo_l (fun (x37 : Nat) (x38 : Int32) (x39 : Int32) (x40 : Int32) (x41 : Int32) (x42 : Int32) (x43 : Int32) (h44 : zH) => zo_l (fun (x45 : Nat) (x46 : Int32) (x47 : Int32) (x48 : Int32) (x49 : Int32) (x50 : Int32) (x51 : Int32) (h52 : zH) => zo_b (zo_gR h52 10 x45 25) (fun v53 => zo_v h52 x45 10 (zm_drawBelow sc x45 (3 : Int32) h52) (fun v56 h55 => zo_b (zq_wrX 1 h55 v53 (882 : Int32) v56) (fun h59 => zo_v h59 x45 10 (zm_oursOf sc x45 (880 : Int32) h59) (fun v62 h61 => zm_years_l153 sc zo_F x45 x46 x47 x48 (x50 + x51) x49 v62 (0 : Int32) h61 (fun (x112 : Nat) (x113 : Int32) (x114 : Int32) (x115 : Int32) (x116 : Int32) (x117 : Int32) (h118 : zH) => zm_years_l62 sc n x112 x113 x114 x115 x116 (x117 + (1 : Int32)) h118 k235)))))) (fun j125_52 => zo_l (fun (x119 : Nat) (x120 : Int32) (x121 : Int32) (x122 : Int32) (x123 : Int32) (x124 : Int32) (h125 : zH) => j125_52 x119 x120 x121 x122 x123 x124 (0 : Int32) h125) (fun j124_125 => if x43 < 0 then (j124_125 x37 x38 x39 x40 x42 x41 h44) else (zo_v h44 x37 10 (zm_skillOf sc x37 x43 (0 : Int32) h44) (fun v128 h127 => zo_b (zo_gR h127 10 x37 10) (fun v131 => zo_b (zq_rdI sc h127 v131 (6 : Int32)) (fun v133 => if v133 ≤ v128 then (j124_125 x37 x38 x39 x40 x42 x41 h127) else (j125_52 x37 x38 x39 x40 x42 x41 (1 : Int32) h127)))))))) (fun j94_44 => if v34 ≤ 0 then (j94_44 y21 y22 y23 y24 y25 y26 (-1 : Int32) h33) else (zo_b (zo_gR h33 10 y21 25) (fun v137 => zo_b (zq_rdI sc h33 v137 (884 : Int32)) (fun v139 => j94_44 y21 y22 y23 y24 y25 y26 v139 h33)))))))
set_option maxRecDepth 4000 in
def zm_years (sc : zX) (a0 : Nat) (a1 : Int32) (a2 : Int32) (a3 : Int32) (h : zH) : Option (Int32 × zH) := zo_b (zo_pI h 10 a0 0 (0 : Int32)) (fun h1 => zo_c (zm_within sc a1 (0 : Int32) (9999 : Int32) h1) (fun v4 h3 => if v4 = 0 then (some ((-1 : Int32), h3)) else (zo_c (zm_within sc a2 (1 : Int32) (40 : Int32) h3) (fun v8 h7 => if v8 = 0 then (some ((-1 : Int32), h7)) else (zo_c (zm_within sc a3 (0 : Int32) (2 : Int32) h7) (fun v12 h11 => if v12 = 0 then (some ((-1 : Int32), h11)) else (zo_v h11 a0 10 (zm_copies sc a0 (0 : Int32) (880 : Int32) (16 : Int32) h11) (fun w16 h15 => zo_b (zo_pL h15 10 a0 30 a1.toInt64) (fun h19 => zm_years_l62 sc zo_F a0 a2 a3 (0 : Int32) (0 : Int32) (0 : Int32) h19 (fun (x141 : Nat) (x142 : Int32) (x143 : Int32) (x144 : Int32) (h145 : zH) => if x142 = 0 then (zo_b (zo_gR h145 10 x141 25) (fun v147 => zo_b (zq_rdI sc h145 v147 (881 : Int32)) (fun v149 => some (v149, h145)))) else (if x142 = (1 : Int32) then (some (x143, h145)) else (some (x144, h145)))))))))))))
set_option maxRecDepth 4000 in
theorem zm_years_l153_ok (sc : zX) (d : Nat) (hd : 5 ≤ d) : ∀ (n : Nat) (y65 : Nat) (y66 : Int32) (y67 : Int32) (y68 : Int32) (y69 : Int32) (y70 : Int32) (y71 : Int32) (y72 : Int32) (h73 : zH) (k229 : Nat → Int32 → Int32 → Int32 → Int32 → Int32 → zH → Option (Int32 × zH)) (ro_ : Int32) (ho_ : zH), (∀ (z0 : Nat) (z1 : Int32) (z2 : Int32) (z3 : Int32) (z4 : Int32) (z5 : Int32) (hz : zH), k229 z0 z1 z2 z3 z4 z5 hz = some (ro_, ho_) → zq_wp sc (d + 1) 262 229 [some (.ref z0), none, some (.int z1), some (.int z2), some (.int z3), some (.int z4), some (.int z5), none, none, none] [] hz (some (.int ro_), ho_)) → zm_years_l153 sc n y65 y66 y67 y68 y69 y70 y71 y72 h73 k229 = some (ro_, ho_) → zq_wp sc (d + 1) 262 153 [some (.ref y65), none, some (.int y66), some (.int y67), some (.int y68), some (.int y69), some (.int y70), none, some (.int y71), some (.int y72)] [] h73 (some (.int ro_), ho_) := by
  intro n
  induction n with
  | zero => intro y65 y66 y67 y68 y69 y70 y71 y72 h73 k229 ro_ ho_ hk229 hf; cases hf
  | succ n ih =>
    intro y65 y66 y67 y68 y69 y70 y71 y72 h73 k229 ro_ ho_ hk229 hf
    refine zq_wg 2 (pc' := 156) (lv' := [some (.ref y65), none, some (.int y66), some (.int y67), some (.int y68), some (.int y69), some (.int y70), none, some (.int y71), some (.int y72)]) (st' := [.ref y65, .int y72]) (h' := h73) rfl ?_
    obtain ⟨v74, e75, hf⟩ := zo_b_s hf
    refine zr_gR rfl rfl (by decide) rfl e75 ?_
    refine zq_wg 1 (pc' := 160) (lv' := [some (.ref y65), none, some (.int y66), some (.int y67), some (.int y68), some (.int y69), some (.int y70), none, some (.int y71), some (.int y72)]) (st' := [.int (5 : Int32), .ref v74, .int y72]) (h' := h73) rfl ?_
    obtain ⟨v76, e77, hf⟩ := zo_b_s hf
    refine zr_iald rfl e77 ?_
    refine zr_if (v76 ≤ y72) 229 164 (st' := []) rfl rfl (fun b78 => ?_) (fun b78 => ?_)
    · have hf := zo_t hf b78
      refine zq_fg [some (.ref y65), none, some (.int y66), some (.int y67), some (.int y68), some (.int y69), some (.int y70), none, none, none] (zq_lvle_s (zq_lvle_s (zq_lvle_s (zq_lvle_s (zq_lvle_s (zq_lvle_s (zq_lvle_s (zq_lvle_s (zq_lvle_n (zq_lvle_n zq_lvle_nil)))))))))) ?_
      exact hk229 y65 y66 y67 y68 y69 y70 h73 hf
    · have hf := zo_f hf b78
      refine zq_wg 2 (pc' := 166) (lv' := [some (.ref y65), none, some (.int y66), some (.int y67), some (.int y68), some (.int y69), some (.int y70), none, some (.int y71), some (.int y72)]) (st' := [.ref y65, .ref y65]) (h' := h73) rfl ?_
      obtain ⟨v79, e80, hf⟩ := zo_b_s hf
      refine zr_gR rfl rfl (by decide) rfl e80 ?_
      refine zq_wg 1 (pc' := 172) (lv' := [some (.ref y65), none, some (.int y66), some (.int y67), some (.int y68), some (.int y69), some (.int y70), none, some (.int y71), some (.int y72)]) (st' := [.int (881 : Int32), .ref v79, .ref y65]) (h' := h73) rfl ?_
      obtain ⟨v81, e82, hf⟩ := zo_b_s hf
      refine zr_iald rfl e82 ?_
      obtain ⟨e86, v84, h83, e85, hf⟩ := zo_v_s hf
      refine zr_cv zq_m214 [.int v81] [] rfl rfl rfl rfl rfl (Nat.le_of_ble_eq_true rfl) (Nat.le_of_ble_eq_true rfl) e86 (zm_isEnd_ok sc d (by omega) e85) ?_
      refine zq_wg 0 (pc' := 176) (lv' := [some (.ref y65), none, some (.int y66), some (.int y67), some (.int y68), some (.int y69), some (.int y70), none, some (.int y71), some (.int y72)]) (st' := [.int v84]) (h' := h83) rfl ?_
      refine zr_if (v84 = 0) 179 229 (st' := []) rfl rfl (fun b87 => ?_) (fun b87 => ?_)
      · have hf := zo_t hf b87
        refine zq_wg 1 (pc' := 180) (lv' := [some (.ref y65), none, some (.int y66), some (.int y67), some (.int y68), some (.int y69), some (.int y70), none, some (.int y71), some (.int y72)]) (st' := [.ref y65]) (h' := h83) rfl ?_
        obtain ⟨v88, e89, hf⟩ := zo_b_s hf
        refine zr_gR rfl rfl (by decide) rfl e89 ?_
        refine zq_wg 3 (pc' := 188) (lv' := [some (.ref y65), none, some (.int y66), some (.int y67), some (.int y68), some (.int y69), some (.int y70), none, some (.int y71), some (.int y72)]) (st' := [.ref y65, .ref y65, .int (881 : Int32), .ref v88]) (h' := h83) rfl ?_
        obtain ⟨v90, e91, hf⟩ := zo_b_s hf
        refine zr_gR rfl rfl (by decide) rfl e91 ?_
        refine zq_wg 1 (pc' := 194) (lv' := [some (.ref y65), none, some (.int y66), some (.int y67), some (.int y68), some (.int y69), some (.int y70), none, some (.int y71), some (.int y72)]) (st' := [.int (881 : Int32), .ref v90, .ref y65, .int (881 : Int32), .ref v88]) (h' := h83) rfl ?_
        obtain ⟨v92, e93, hf⟩ := zo_b_s hf
        refine zr_iald rfl e93 ?_
        refine zq_wg 3 (pc' := 199) (lv' := [some (.ref y65), none, some (.int y66), some (.int y67), some (.int y68), some (.int y69), some (.int y70), none, some (.int y71), some (.int y72)]) (st' := [.ref y65, .int y71, .ref y65, .int v92, .ref y65, .int (881 : Int32), .ref v88]) (h' := h83) rfl ?_
        obtain ⟨v94, e95, hf⟩ := zo_b_s hf
        refine zr_gR rfl rfl (by decide) rfl e95 ?_
        refine zq_wg 1 (pc' := 203) (lv' := [some (.ref y65), none, some (.int y66), some (.int y67), some (.int y68), some (.int y69), some (.int y70), none, some (.int y71), some (.int y72)]) (st' := [.int (4 : Int32), .ref v94, .int y71, .ref y65, .int v92, .ref y65, .int (881 : Int32), .ref v88]) (h' := h83) rfl ?_
        obtain ⟨v96, e97, hf⟩ := zo_b_s hf
        refine zr_iald rfl e97 ?_
        refine zq_wg 1 (pc' := 205) (lv' := [some (.ref y65), none, some (.int y66), some (.int y67), some (.int y68), some (.int y69), some (.int y70), none, some (.int y71), some (.int y72)]) (st' := [.ref y65, .int v96, .int y71, .ref y65, .int v92, .ref y65, .int (881 : Int32), .ref v88]) (h' := h83) rfl ?_
        obtain ⟨v98, e99, hf⟩ := zo_b_s hf
        refine zr_gR rfl rfl (by decide) rfl e99 ?_
        refine zq_wg 1 (pc' := 211) (lv' := [some (.ref y65), none, some (.int y66), some (.int y67), some (.int y68), some (.int y69), some (.int y70), none, some (.int y71), some (.int y72)]) (st' := [.int (882 : Int32), .ref v98, .int v96, .int y71, .ref y65, .int v92, .ref y65, .int (881 : Int32), .ref v88]) (h' := h83) rfl ?_
        obtain ⟨v100, e101, hf⟩ := zo_b_s hf
        refine zr_iald rfl e101 ?_
        obtain ⟨e105, v103, h102, e104, hf⟩ := zo_v_s hf
        refine zr_cv zq_m218 [.int y71, .int v96, .int v100] [.int v92, .ref y65, .int (881 : Int32), .ref v88] rfl rfl rfl rfl rfl (Nat.le_of_ble_eq_true rfl) (Nat.le_of_ble_eq_true rfl) e105 (zm_goesBy_ok sc d (by omega) e104) ?_
        refine zq_wg 0 (pc' := 215) (lv' := [some (.ref y65), none, some (.int y66), some (.int y67), some (.int y68), some (.int y69), some (.int y70), none, some (.int y71), some (.int y72)]) (st' := [.int v103, .int v92, .ref y65, .int (881 : Int32), .ref v88]) (h' := h102) rfl ?_
        refine zq_wg 1 (pc' := 216) (lv' := [some (.ref y65), none, some (.int y66), some (.int y67), some (.int y68), some (.int y69), some (.int y70), none, some (.int y71), some (.int y72)]) (st' := [.int (v92 + v103), .ref y65, .int (881 : Int32), .ref v88]) (h' := h102) rfl ?_
        obtain ⟨e109, v107, h106, e108, hf⟩ := zo_v_s hf
        refine zr_cv zq_m219 [.int (v92 + v103)] [.int (881 : Int32), .ref v88] rfl rfl rfl rfl rfl (Nat.le_of_ble_eq_true rfl) (Nat.le_of_ble_eq_true rfl) e109 (zm_bounded_ok sc d (by omega) e108) ?_
        refine zq_wg 0 (pc' := 219) (lv' := [some (.ref y65), none, some (.int y66), some (.int y67), some (.int y68), some (.int y69), some (.int y70), none, some (.int y71), some (.int y72)]) (st' := [.int v107, .int (881 : Int32), .ref v88]) (h' := h106) rfl ?_
        obtain ⟨h110, e111, hf⟩ := zo_b_s hf
        refine zr_iast rfl e111 ?_
        refine zq_wg 3 (pc' := 153) (lv' := [some (.ref y65), none, some (.int y66), some (.int y67), some (.int (y68 + (1 : Int32))), some (.int y69), some (.int y70), none, some (.int y71), some (.int (y72 + (1 : Int32)))]) (st' := []) (h' := h110) rfl ?_
        exact ih y65 y66 y67 (y68 + (1 : Int32)) y69 y70 y71 (y72 + (1 : Int32)) h110 _ _ _ hk229 hf
      · have hf := zo_f hf b87
        refine zq_fg [some (.ref y65), none, some (.int y66), some (.int y67), some (.int y68), some (.int y69), some (.int y70), none, none, none] (zq_lvle_s (zq_lvle_s (zq_lvle_s (zq_lvle_s (zq_lvle_s (zq_lvle_s (zq_lvle_s (zq_lvle_s (zq_lvle_n (zq_lvle_n zq_lvle_nil)))))))))) ?_
        exact hk229 y65 y66 y67 y68 y69 y70 h83 hf
set_option maxRecDepth 4000 in
theorem zm_years_l62_ok (sc : zX) (d : Nat) (hd : 5 ≤ d) : ∀ (n : Nat) (y21 : Nat) (y22 : Int32) (y23 : Int32) (y24 : Int32) (y25 : Int32) (y26 : Int32) (h27 : zH) (k235 : Nat → Int32 → Int32 → Int32 → zH → Option (Int32 × zH)) (ro_ : Int32) (ho_ : zH), (∀ (z0 : Nat) (z1 : Int32) (z2 : Int32) (z3 : Int32) (hz : zH), k235 z0 z1 z2 z3 hz = some (ro_, ho_) → zq_wp sc (d + 1) 262 235 [some (.ref z0), none, none, some (.int z1), some (.int z2), some (.int z3), none, none, none, none] [] hz (some (.int ro_), ho_)) → zm_years_l62 sc n y21 y22 y23 y24 y25 y26 h27 k235 = some (ro_, ho_) → zq_wp sc (d + 1) 262 62 [some (.ref y21), none, some (.int y22), some (.int y23), some (.int y24), some (.int y25), some (.int y26), none, none, none] [] h27 (some (.int ro_), ho_) := by
  intro n
  induction n with
  | zero => intro y21 y22 y23 y24 y25 y26 h27 k235 ro_ ho_ hk235 hf; cases hf
  | succ n ih =>
    intro y21 y22 y23 y24 y25 y26 h27 k235 ro_ ho_ hk235 hf
    refine zq_wg 2 (pc' := 65) (lv' := [some (.ref y21), none, some (.int y22), some (.int y23), some (.int y24), some (.int y25), some (.int y26), none, none, none]) (st' := [.int y22, .int y26]) (h' := h27) rfl ?_
    refine zr_if (y22 ≤ y26) 235 68 (st' := []) rfl rfl (fun b28 => ?_) (fun b28 => ?_)
    · have hf := zo_t hf b28
      refine zq_fg [some (.ref y21), none, none, some (.int y23), some (.int y24), some (.int y25), none, none, none, none] (zq_lvle_s (zq_lvle_s (zq_lvle_n (zq_lvle_s (zq_lvle_s (zq_lvle_s (zq_lvle_n (zq_lvle_s (zq_lvle_s (zq_lvle_s zq_lvle_nil)))))))))) ?_
      exact hk235 y21 y23 y24 y25 h27 hf
    · have hf := zo_f hf b28
      refine zq_wg 2 (pc' := 72) (lv' := [some (.ref y21), none, some (.int y22), some (.int y23), some (.int y24), some (.int y25), some (.int y26), none, none, none]) (st' := [.int (880 : Int32), .ref y21]) (h' := h27) rfl ?_
      obtain ⟨e32, w30, h29, e31, hf⟩ := zo_v_s hf
      refine zr_cv zq_m207 [.int (880 : Int32)] [] rfl rfl rfl rfl rfl (Nat.le_of_ble_eq_true rfl) (Nat.le_of_ble_eq_true rfl) e32 (zm_draws_ok sc d (by omega) e31) ?_
      refine zq_wg 0 (pc' := 75) (lv' := [some (.ref y21), none, some (.int y22), some (.int y23), some (.int y24), some (.int y25), some (.int y26), none, none, none]) (st' := []) (h' := h29) rfl ?_
      refine zq_wg 1 (pc' := 76) (lv' := [some (.ref y21), none, some (.int y22), some (.int y23), some (.int y24), some (.int y25), some (.int y26), none, none, none]) (st' := [.ref y21]) (h' := h29) rfl ?_
      obtain ⟨e36, v34, h33, e35, hf⟩ := zo_v_s hf
      refine zr_cv zq_m151 [] [] rfl rfl rfl rfl rfl (Nat.le_of_ble_eq_true rfl) (Nat.le_of_ble_eq_true rfl) e36 (zm_posts_ok sc d (by omega) e35) ?_
      refine zq_wg 0 (pc' := 79) (lv' := [some (.ref y21), none, some (.int y22), some (.int y23), some (.int y24), some (.int y25), some (.int y26), none, none, none]) (st' := [.int v34]) (h' := h33) rfl ?_
      obtain ⟨j94_44, hjj94_44, hf⟩ := zo_lj hf
      have kj94_44 : ∀ (x37 : Nat) (x38 : Int32) (x39 : Int32) (x40 : Int32) (x41 : Int32) (x42 : Int32) (x43 : Int32) (h44 : zH), j94_44 x37 x38 x39 x40 x41 x42 x43 h44 = some (ro_, ho_) → zq_wp sc (d + 1) 262 94 [some (.ref x37), none, some (.int x38), some (.int x39), some (.int x40), some (.int x41), some (.int x42), none, none, none] [.int x43] h44 (some (.int ro_), ho_) := by
        intro x37 x38 x39 x40 x41 x42 x43 h44 hf
        rw [hjj94_44] at hf
        refine zq_wg 3 (pc' := 100) (lv' := [some (.ref x37), none, some (.int x38), some (.int x39), some (.int x40), some (.int x41), some (.int x42), some (.int x43), none, none]) (st' := [.int x43, .int x41]) (h' := h44) rfl ?_
        obtain ⟨j125_52, hjj125_52, hf⟩ := zo_lj hf
        have kj125_52 : ∀ (x45 : Nat) (x46 : Int32) (x47 : Int32) (x48 : Int32) (x49 : Int32) (x50 : Int32) (x51 : Int32) (h52 : zH), j125_52 x45 x46 x47 x48 x49 x50 x51 h52 = some (ro_, ho_) → zq_wp sc (d + 1) 262 125 [some (.ref x45), none, some (.int x46), some (.int x47), some (.int x48), none, some (.int x49), none, none, none] [.int x51, .int x50] h52 (some (.int ro_), ho_) := by
          intro x45 x46 x47 x48 x49 x50 x51 h52 hf
          rw [hjj125_52] at hf
          refine zq_wg 3 (pc' := 129) (lv' := [some (.ref x45), none, some (.int x46), some (.int x47), some (.int x48), some (.int (x50 + x51)), some (.int x49), none, none, none]) (st' := [.ref x45]) (h' := h52) rfl ?_
          obtain ⟨v53, e54, hf⟩ := zo_b_s hf
          refine zr_gR rfl rfl (by decide) rfl e54 ?_
          refine zq_wg 3 (pc' := 137) (lv' := [some (.ref x45), none, some (.int x46), some (.int x47), some (.int x48), some (.int (x50 + x51)), some (.int x49), none, none, none]) (st' := [.int (3 : Int32), .ref x45, .int (882 : Int32), .ref v53]) (h' := h52) rfl ?_
          obtain ⟨e58, v56, h55, e57, hf⟩ := zo_v_s hf
          refine zr_cv zq_m208 [.int (3 : Int32)] [.int (882 : Int32), .ref v53] rfl rfl rfl rfl rfl (Nat.le_of_ble_eq_true rfl) (Nat.le_of_ble_eq_true rfl) e58 (zm_drawBelow_ok sc d (by omega) e57) ?_
          refine zq_wg 0 (pc' := 140) (lv' := [some (.ref x45), none, some (.int x46), some (.int x47), some (.int x48), some (.int (x50 + x51)), some (.int x49), none, none, none]) (st' := [.int v56, .int (882 : Int32), .ref v53]) (h' := h55) rfl ?_
          obtain ⟨h59, e60, hf⟩ := zo_b_s hf
          refine zr_iast rfl e60 ?_
          refine zq_wg 2 (pc' := 145) (lv' := [some (.ref x45), none, some (.int x46), some (.int x47), some (.int x48), some (.int (x50 + x51)), some (.int x49), none, none, none]) (st' := [.int (880 : Int32), .ref x45]) (h' := h59) rfl ?_
          obtain ⟨e64, v62, h61, e63, hf⟩ := zo_v_s hf
          refine zr_cv zq_m202 [.int (880 : Int32)] [] rfl rfl rfl rfl rfl (Nat.le_of_ble_eq_true rfl) (Nat.le_of_ble_eq_true rfl) e64 (zm_oursOf_ok sc d (by omega) e63) ?_
          refine zq_wg 0 (pc' := 148) (lv' := [some (.ref x45), none, some (.int x46), some (.int x47), some (.int x48), some (.int (x50 + x51)), some (.int x49), none, none, none]) (st' := [.int v62]) (h' := h61) rfl ?_
          refine zq_wg 3 (pc' := 153) (lv' := [some (.ref x45), none, some (.int x46), some (.int x47), some (.int x48), some (.int (x50 + x51)), some (.int x49), none, some (.int v62), some (.int (0 : Int32))]) (st' := []) (h' := h61) rfl ?_
          refine zm_years_l153_ok sc d hd zo_F x45 x46 x47 x48 (x50 + x51) x49 v62 (0 : Int32) h61 _ _ _ ?_ hf
          · intro x112 x113 x114 x115 x116 x117 h118 hf
            refine zq_wg 2 (pc' := 62) (lv' := [some (.ref x112), none, some (.int x113), some (.int x114), some (.int x115), some (.int x116), some (.int (x117 + (1 : Int32))), none, none, none]) (st' := []) (h' := h118) rfl ?_
            exact ih x112 x113 x114 x115 x116 (x117 + (1 : Int32)) h118 _ _ _ hk235 hf
        obtain ⟨j124_125, hjj124_125, hf⟩ := zo_lj hf
        have kj124_125 : ∀ (x119 : Nat) (x120 : Int32) (x121 : Int32) (x122 : Int32) (x123 : Int32) (x124 : Int32) (h125 : zH), j124_125 x119 x120 x121 x122 x123 x124 h125 = some (ro_, ho_) → zq_wp sc (d + 1) 262 124 [some (.ref x119), none, some (.int x120), some (.int x121), some (.int x122), none, some (.int x123), none, none, none] [.int x124] h125 (some (.int ro_), ho_) := by
          intro x119 x120 x121 x122 x123 x124 h125 hf
          rw [hjj124_125] at hf
          refine zq_wg 1 (pc' := 125) (lv' := [some (.ref x119), none, some (.int x120), some (.int x121), some (.int x122), none, some (.int x123), none, none, none]) (st' := [.int (0 : Int32), .int x124]) (h' := h125) rfl ?_
          exact kj125_52 x119 x120 x121 x122 x123 x124 (0 : Int32) h125 hf
        refine zr_if (x43 < 0) 124 103 (st' := [.int x41]) rfl rfl (fun b126 => ?_) (fun b126 => ?_)
        · have hf := zo_t hf b126
          refine zq_fg [some (.ref x37), none, some (.int x38), some (.int x39), some (.int x40), none, some (.int x42), none, none, none] (zq_lvle_s (zq_lvle_s (zq_lvle_s (zq_lvle_s (zq_lvle_s (zq_lvle_n (zq_lvle_s (zq_lvle_n (zq_lvle_s (zq_lvle_s zq_lvle_nil)))))))))) ?_
          exact kj124_125 x37 x38 x39 x40 x42 x41 h44 hf
        · have hf := zo_f hf b126
          refine zq_wg 3 (pc' := 107) (lv' := [some (.ref x37), none, some (.int x38), some (.int x39), some (.int x40), some (.int x41), some (.int x42), some (.int x43), none, none]) (st' := [.int (0 : Int32), .int x43, .ref x37, .int x41]) (h' := h44) rfl ?_
          obtain ⟨e130, v128, h127, e129, hf⟩ := zo_v_s hf
          refine zr_cv zq_m191 [.int x43, .int (0 : Int32)] [.int x41] rfl rfl rfl rfl rfl (Nat.le_of_ble_eq_true rfl) (Nat.le_of_ble_eq_true rfl) e130 (zm_skillOf_ok sc d (by omega) e129) ?_
          refine zq_wg 0 (pc' := 110) (lv' := [some (.ref x37), none, some (.int x38), some (.int x39), some (.int x40), some (.int x41), some (.int x42), some (.int x43), none, none]) (st' := [.int v128, .int x41]) (h' := h127) rfl ?_
          refine zq_wg 1 (pc' := 111) (lv' := [some (.ref x37), none, some (.int x38), some (.int x39), some (.int x40), some (.int x41), some (.int x42), some (.int x43), none, none]) (st' := [.ref x37, .int v128, .int x41]) (h' := h127) rfl ?_
          obtain ⟨v131, e132, hf⟩ := zo_b_s hf
          refine zr_gR rfl rfl (by decide) rfl e132 ?_
          refine zq_wg 1 (pc' := 116) (lv' := [some (.ref x37), none, some (.int x38), some (.int x39), some (.int x40), some (.int x41), some (.int x42), some (.int x43), none, none]) (st' := [.int (6 : Int32), .ref v131, .int v128, .int x41]) (h' := h127) rfl ?_
          obtain ⟨v133, e134, hf⟩ := zo_b_s hf
          refine zr_iald rfl e134 ?_
          refine zr_if (v133 ≤ v128) 124 120 (st' := [.int x41]) rfl rfl (fun b135 => ?_) (fun b135 => ?_)
          · have hf := zo_t hf b135
            refine zq_fg [some (.ref x37), none, some (.int x38), some (.int x39), some (.int x40), none, some (.int x42), none, none, none] (zq_lvle_s (zq_lvle_s (zq_lvle_s (zq_lvle_s (zq_lvle_s (zq_lvle_n (zq_lvle_s (zq_lvle_n (zq_lvle_s (zq_lvle_s zq_lvle_nil)))))))))) ?_
            exact kj124_125 x37 x38 x39 x40 x42 x41 h127 hf
          · have hf := zo_f hf b135
            refine zq_wg 2 (pc' := 125) (lv' := [some (.ref x37), none, some (.int x38), some (.int x39), some (.int x40), some (.int x41), some (.int x42), some (.int x43), none, none]) (st' := [.int (1 : Int32), .int x41]) (h' := h127) rfl ?_
            refine zq_fg [some (.ref x37), none, some (.int x38), some (.int x39), some (.int x40), none, some (.int x42), none, none, none] (zq_lvle_s (zq_lvle_s (zq_lvle_s (zq_lvle_s (zq_lvle_s (zq_lvle_n (zq_lvle_s (zq_lvle_n (zq_lvle_s (zq_lvle_s zq_lvle_nil)))))))))) ?_
            exact kj125_52 x37 x38 x39 x40 x42 x41 (1 : Int32) h127 hf
      refine zr_if (v34 ≤ 0) 93 82 (st' := []) rfl rfl (fun b136 => ?_) (fun b136 => ?_)
      · have hf := zo_t hf b136
        refine zq_wg 1 (pc' := 94) (lv' := [some (.ref y21), none, some (.int y22), some (.int y23), some (.int y24), some (.int y25), some (.int y26), none, none, none]) (st' := [.int (-1 : Int32)]) (h' := h33) rfl ?_
        exact kj94_44 y21 y22 y23 y24 y25 y26 (-1 : Int32) h33 hf
      · have hf := zo_f hf b136
        refine zq_wg 1 (pc' := 83) (lv' := [some (.ref y21), none, some (.int y22), some (.int y23), some (.int y24), some (.int y25), some (.int y26), none, none, none]) (st' := [.ref y21]) (h' := h33) rfl ?_
        obtain ⟨v137, e138, hf⟩ := zo_b_s hf
        refine zr_gR rfl rfl (by decide) rfl e138 ?_
        refine zq_wg 1 (pc' := 89) (lv' := [some (.ref y21), none, some (.int y22), some (.int y23), some (.int y24), some (.int y25), some (.int y26), none, none, none]) (st' := [.int (884 : Int32), .ref v137]) (h' := h33) rfl ?_
        obtain ⟨v139, e140, hf⟩ := zo_b_s hf
        refine zr_iald rfl e140 ?_
        refine zq_wg 1 (pc' := 94) (lv' := [some (.ref y21), none, some (.int y22), some (.int y23), some (.int y24), some (.int y25), some (.int y26), none, none, none]) (st' := [.int v139]) (h' := h33) rfl ?_
        exact kj94_44 y21 y22 y23 y24 y25 y26 v139 h33 hf
set_option maxRecDepth 4000 in
theorem zm_years_ok (sc : zX) (d : Nat) (hd : 6 ≤ d) {a0 : Nat} {a1 : Int32} {a2 : Int32} {a3 : Int32} {h : zH} {ro_ : Int32} {ho_ : zH} (hf : zm_years sc a0 a1 a2 a3 h = some (ro_, ho_)) : zq_wm sc d 262 [.ref a0, .int a1, .int a2, .int a3] h (some (.int ro_), ho_) := by
  unfold zm_years at hf
  obtain ⟨d, rfl⟩ : ∃ d', d = d' + 1 := ⟨d - 1, by omega⟩
  have hd : 5 ≤ d := by omega
  show zq_wp sc (d + 1) 262 0 [some (.ref a0), some (.int a1), some (.int a2), some (.int a3), none, none, none, none, none, none] [] h _
  refine zq_wg 2 (pc' := 2) (lv' := [some (.ref a0), some (.int a1), some (.int a2), some (.int a3), none, none, none, none, none, none]) (st' := [.int (0 : Int32), .ref a0]) (h' := h) rfl ?_
  obtain ⟨h1, e2, hf⟩ := zo_b_s hf
  refine zr_pI rfl rfl (by decide) rfl rfl e2 ?_
  refine zq_wg 3 (pc' := 10) (lv' := [some (.ref a0), some (.int a1), some (.int a2), some (.int a3), none, none, none, none, none, none]) (st' := [.int (9999 : Int32), .int (0 : Int32), .int a1]) (h' := h1) rfl ?_
  obtain ⟨v4, h3, e5, hf⟩ := zo_c_s hf
  refine zr_cs zq_m173 [.int a1, .int (0 : Int32), .int (9999 : Int32)] [] rfl rfl (by decide) rfl rfl rfl (Nat.le_of_ble_eq_true rfl) (Nat.le_of_ble_eq_true rfl) (zm_within_ok sc d (by omega) e5) ?_
  refine zq_wg 0 (pc' := 13) (lv' := [some (.ref a0), some (.int a1), some (.int a2), some (.int a3), none, none, none, none, none, none]) (st' := [.int v4]) (h' := h3) rfl ?_
  refine zr_if (v4 = 0) 35 16 (st' := []) rfl rfl (fun b6 => ?_) (fun b6 => ?_)
  · have hf := zo_t hf b6
    refine zq_wg 1 (pc' := 36) (lv' := [some (.ref a0), some (.int a1), some (.int a2), some (.int a3), none, none, none, none, none, none]) (st' := [.int (-1 : Int32)]) (h' := h3) rfl ?_
    exact zr_ri rfl rfl rfl hf
  · have hf := zo_f hf b6
    refine zq_wg 3 (pc' := 20) (lv' := [some (.ref a0), some (.int a1), some (.int a2), some (.int a3), none, none, none, none, none, none]) (st' := [.int (40 : Int32), .int (1 : Int32), .int a2]) (h' := h3) rfl ?_
    obtain ⟨v8, h7, e9, hf⟩ := zo_c_s hf
    refine zr_cs zq_m173 [.int a2, .int (1 : Int32), .int (40 : Int32)] [] rfl rfl (by decide) rfl rfl rfl (Nat.le_of_ble_eq_true rfl) (Nat.le_of_ble_eq_true rfl) (zm_within_ok sc d (by omega) e9) ?_
    refine zq_wg 0 (pc' := 23) (lv' := [some (.ref a0), some (.int a1), some (.int a2), some (.int a3), none, none, none, none, none, none]) (st' := [.int v8]) (h' := h7) rfl ?_
    refine zr_if (v8 = 0) 35 26 (st' := []) rfl rfl (fun b10 => ?_) (fun b10 => ?_)
    · have hf := zo_t hf b10
      refine zq_wg 1 (pc' := 36) (lv' := [some (.ref a0), some (.int a1), some (.int a2), some (.int a3), none, none, none, none, none, none]) (st' := [.int (-1 : Int32)]) (h' := h7) rfl ?_
      exact zr_ri rfl rfl rfl hf
    · have hf := zo_f hf b10
      refine zq_wg 3 (pc' := 29) (lv' := [some (.ref a0), some (.int a1), some (.int a2), some (.int a3), none, none, none, none, none, none]) (st' := [.int (2 : Int32), .int (0 : Int32), .int a3]) (h' := h7) rfl ?_
      obtain ⟨v12, h11, e13, hf⟩ := zo_c_s hf
      refine zr_cs zq_m173 [.int a3, .int (0 : Int32), .int (2 : Int32)] [] rfl rfl (by decide) rfl rfl rfl (Nat.le_of_ble_eq_true rfl) (Nat.le_of_ble_eq_true rfl) (zm_within_ok sc d (by omega) e13) ?_
      refine zq_wg 0 (pc' := 32) (lv' := [some (.ref a0), some (.int a1), some (.int a2), some (.int a3), none, none, none, none, none, none]) (st' := [.int v12]) (h' := h11) rfl ?_
      refine zr_if (v12 = 0) 35 37 (st' := []) rfl rfl (fun b14 => ?_) (fun b14 => ?_)
      · have hf := zo_t hf b14
        refine zq_wg 1 (pc' := 36) (lv' := [some (.ref a0), some (.int a1), some (.int a2), some (.int a3), none, none, none, none, none, none]) (st' := [.int (-1 : Int32)]) (h' := h11) rfl ?_
        exact zr_ri rfl rfl rfl hf
      · have hf := zo_f hf b14
        refine zq_wg 4 (pc' := 44) (lv' := [some (.ref a0), some (.int a1), some (.int a2), some (.int a3), none, none, none, none, none, none]) (st' := [.int (16 : Int32), .int (880 : Int32), .int (0 : Int32), .ref a0]) (h' := h11) rfl ?_
        obtain ⟨e18, w16, h15, e17, hf⟩ := zo_v_s hf
        refine zr_cv zq_m206 [.int (0 : Int32), .int (880 : Int32), .int (16 : Int32)] [] rfl rfl rfl rfl rfl (Nat.le_of_ble_eq_true rfl) (Nat.le_of_ble_eq_true rfl) e18 (zm_copies_ok sc d (by omega) e17) ?_
        refine zq_wg 0 (pc' := 47) (lv' := [some (.ref a0), some (.int a1), some (.int a2), some (.int a3), none, none, none, none, none, none]) (st' := []) (h' := h15) rfl ?_
        refine zq_wg 3 (pc' := 50) (lv' := [some (.ref a0), some (.int a1), some (.int a2), some (.int a3), none, none, none, none, none, none]) (st' := [.long a1.toInt64, .ref a0]) (h' := h15) rfl ?_
        obtain ⟨h19, e20, hf⟩ := zo_b_s hf
        refine zr_pL rfl rfl (by decide) rfl rfl e20 ?_
        refine zq_wg 6 (pc' := 62) (lv' := [some (.ref a0), some (.int a1), some (.int a2), some (.int a3), some (.int (0 : Int32)), some (.int (0 : Int32)), some (.int (0 : Int32)), none, none, none]) (st' := []) (h' := h19) rfl ?_
        refine zq_fg [some (.ref a0), none, some (.int a2), some (.int a3), some (.int (0 : Int32)), some (.int (0 : Int32)), some (.int (0 : Int32)), none, none, none] (zq_lvle_s (zq_lvle_n (zq_lvle_s (zq_lvle_s (zq_lvle_s (zq_lvle_s (zq_lvle_s (zq_lvle_s (zq_lvle_s (zq_lvle_s zq_lvle_nil)))))))))) ?_
        refine zm_years_l62_ok sc d hd zo_F a0 a2 a3 (0 : Int32) (0 : Int32) (0 : Int32) h19 _ _ _ ?_ hf
        · intro x141 x142 x143 x144 h145 hf
          refine zq_wg 1 (pc' := 236) (lv' := [some (.ref x141), none, none, some (.int x142), some (.int x143), some (.int x144), none, none, none, none]) (st' := [.int x142]) (h' := h145) rfl ?_
          refine zr_if (x142 = 0) 239 250 (st' := []) rfl rfl (fun b146 => ?_) (fun b146 => ?_)
          · have hf := zo_t hf b146
            refine zq_wg 1 (pc' := 240) (lv' := [some (.ref x141), none, none, some (.int x142), some (.int x143), some (.int x144), none, none, none, none]) (st' := [.ref x141]) (h' := h145) rfl ?_
            obtain ⟨v147, e148, hf⟩ := zo_b_s hf
            refine zr_gR rfl rfl (by decide) rfl e148 ?_
            refine zq_wg 1 (pc' := 246) (lv' := [some (.ref x141), none, none, some (.int x142), some (.int x143), some (.int x144), none, none, none, none]) (st' := [.int (881 : Int32), .ref v147]) (h' := h145) rfl ?_
            obtain ⟨v149, e150, hf⟩ := zo_b_s hf
            refine zr_iald rfl e150 ?_
            refine zq_wg 1 (pc' := 262) (lv' := [some (.ref x141), none, none, some (.int x142), some (.int x143), some (.int x144), none, none, none, none]) (st' := [.int v149]) (h' := h145) rfl ?_
            exact zr_ri rfl rfl rfl hf
          · have hf := zo_f hf b146
            refine zq_wg 2 (pc' := 252) (lv' := [some (.ref x141), none, none, some (.int x142), some (.int x143), some (.int x144), none, none, none, none]) (st' := [.int (1 : Int32), .int x142]) (h' := h145) rfl ?_
            refine zr_if (x142 = (1 : Int32)) 255 260 (st' := []) rfl rfl (fun b151 => ?_) (fun b151 => ?_)
            · have hf := zo_t hf b151
              refine zq_wg 2 (pc' := 262) (lv' := [some (.ref x141), none, none, some (.int x142), some (.int x143), some (.int x144), none, none, none, none]) (st' := [.int x143]) (h' := h145) rfl ?_
              exact zr_ri rfl rfl rfl hf
            · have hf := zo_f hf b151
              refine zq_wg 1 (pc' := 262) (lv' := [some (.ref x141), none, none, some (.int x142), some (.int x143), some (.int x144), none, none, none, none]) (st' := [.int x144]) (h' := h145) rfl ?_
              exact zr_ri rfl rfl rfl hf
set_option maxRecDepth 4000 in
def zm_mark (sc : zX) (a0 : Nat) (a1 : Int32) (a2 : Int32) (h : zH) : Option (Int32 × zH) := zo_b (zo_pI h 10 a0 0 (0 : Int32)) (fun h1 => zo_c (zm_within sc a1 (0 : Int32) (3 : Int32) h1) (fun v4 h3 => if v4 = 0 then (some ((0 : Int32), h3)) else (zo_l (fun (x7 : Nat) (x8 : Int32) (x9 : Int32) (h10 : zH) => zo_b (zo_gR h10 10 x7 27) (fun v11 => zo_b (zq_wrX 4 h10 v11 x8 (vp_nar .boolean (1 : Int32))) (fun h13 => zo_l (if x9 = 0 then (0 : Int32) else ((40 : Int32) * ((1 : Int32) + x8))) (fun (x15 : Int32) => zo_l (if x9 = 0 then ((40 : Int32) * ((1 : Int32) + x8)) else (0 : Int32)) (fun (x16 : Int32) => zo_v h13 x7 10 (zm_copies sc x7 x15 x16 (40 : Int32) h13) (fun w18 h17 => zo_l (fun (x21 : Nat) (x22 : Int32) (h23 : zH) => zo_b (zo_pI h23 10 x21 26 x22) (fun h24 => some ((1 : Int32), h24))) (fun j83_23 => if x9 = 0 then (zo_b (zo_gI h17 10 x7 26) (fun v27 => j83_23 x7 v27 h17)) else (j83_23 x7 (0 : Int32) h17)))))))) (fun j29_10 => if a2 = 0 then (j29_10 a0 a1 a2 h3) else (zo_b (zo_gR h3 10 a0 27) (fun v32 => zo_b (zq_rdX 4 h3 v32 a1) (fun v34 => if v34 = 0 then (some ((0 : Int32), h3)) else (j29_10 a0 a1 a2 h3))))))))
set_option maxRecDepth 4000 in
theorem zm_mark_ok (sc : zX) (d : Nat) (hd : 1 ≤ d) {a0 : Nat} {a1 : Int32} {a2 : Int32} {h : zH} {ro_ : Int32} {ho_ : zH} (hf : zm_mark sc a0 a1 a2 h = some (ro_, ho_)) : zq_wm sc d 263 [.ref a0, .int a1, .int a2] h (some (.int ro_), ho_) := by
  unfold zm_mark at hf
  obtain ⟨d, rfl⟩ : ∃ d', d = d' + 1 := ⟨d - 1, by omega⟩
  have hd : 0 ≤ d := by omega
  show zq_wp sc (d + 1) 263 0 [some (.ref a0), some (.int a1), some (.int a2)] [] h _
  refine zq_wg 2 (pc' := 2) (lv' := [some (.ref a0), some (.int a1), some (.int a2)]) (st' := [.int (0 : Int32), .ref a0]) (h' := h) rfl ?_
  obtain ⟨h1, e2, hf⟩ := zo_b_s hf
  refine zr_pI rfl rfl (by decide) rfl rfl e2 ?_
  refine zq_wg 3 (pc' := 8) (lv' := [some (.ref a0), some (.int a1), some (.int a2)]) (st' := [.int (3 : Int32), .int (0 : Int32), .int a1]) (h' := h1) rfl ?_
  obtain ⟨v4, h3, e5, hf⟩ := zo_c_s hf
  refine zr_cs zq_m173 [.int a1, .int (0 : Int32), .int (3 : Int32)] [] rfl rfl (by decide) rfl rfl rfl (Nat.le_of_ble_eq_true rfl) (Nat.le_of_ble_eq_true rfl) (zm_within_ok sc d (by omega) e5) ?_
  refine zq_wg 0 (pc' := 11) (lv' := [some (.ref a0), some (.int a1), some (.int a2)]) (st' := [.int v4]) (h' := h3) rfl ?_
  refine zr_if (v4 = 0) 27 14 (st' := []) rfl rfl (fun b6 => ?_) (fun b6 => ?_)
  · have hf := zo_t hf b6
    refine zq_wg 1 (pc' := 28) (lv' := [some (.ref a0), some (.int a1), some (.int a2)]) (st' := [.int (0 : Int32)]) (h' := h3) rfl ?_
    exact zr_ri rfl rfl rfl hf
  · have hf := zo_f hf b6
    refine zq_wg 1 (pc' := 15) (lv' := [some (.ref a0), some (.int a1), some (.int a2)]) (st' := [.int a2]) (h' := h3) rfl ?_
    obtain ⟨j29_10, hjj29_10, hf⟩ := zo_lj hf
    have kj29_10 : ∀ (x7 : Nat) (x8 : Int32) (x9 : Int32) (h10 : zH), j29_10 x7 x8 x9 h10 = some (ro_, ho_) → zq_wp sc (d + 1) 263 29 [some (.ref x7), some (.int x8), some (.int x9)] [] h10 (some (.int ro_), ho_) := by
      intro x7 x8 x9 h10 hf
      rw [hjj29_10] at hf
      refine zq_wg 1 (pc' := 30) (lv' := [some (.ref x7), some (.int x8), some (.int x9)]) (st' := [.ref x7]) (h' := h10) rfl ?_
      obtain ⟨v11, e12, hf⟩ := zo_b_s hf
      refine zr_gR rfl rfl (by decide) rfl e12 ?_
      refine zq_wg 2 (pc' := 35) (lv' := [some (.ref x7), some (.int x8), some (.int x9)]) (st' := [.int (1 : Int32), .int x8, .ref v11]) (h' := h10) rfl ?_
      obtain ⟨h13, e14, hf⟩ := zo_b_s hf
      refine zr_bast rfl e14 ?_
      refine zq_wg 2 (pc' := 38) (lv' := [some (.ref x7), some (.int x8), some (.int x9)]) (st' := [.int x9, .ref x7]) (h' := h13) rfl ?_
      obtain ⟨g51_15, hg51_15, hf⟩ := zo_lx hf
      have kg51_15 : ∀ (x15 : Int32), g51_15 x15 = some (ro_, ho_) → zq_wp sc (d + 1) 263 51 [some (.ref x7), some (.int x8), some (.int x9)] [.int x15, .ref x7] h13 (some (.int ro_), ho_) := by
        intro x15 hf
        rw [hg51_15] at hf
        refine zq_wg 1 (pc' := 52) (lv' := [some (.ref x7), some (.int x8), some (.int x9)]) (st' := [.int x9, .int x15, .ref x7]) (h' := h13) rfl ?_
        obtain ⟨g65_16, hg65_16, hf⟩ := zo_lx hf
        have kg65_16 : ∀ (x16 : Int32), g65_16 x16 = some (ro_, ho_) → zq_wp sc (d + 1) 263 65 [some (.ref x7), some (.int x8), some (.int x9)] [.int x16, .int x15, .ref x7] h13 (some (.int ro_), ho_) := by
          intro x16 hf
          rw [hg65_16] at hf
          refine zq_wg 1 (pc' := 67) (lv' := [some (.ref x7), some (.int x8), some (.int x9)]) (st' := [.int (40 : Int32), .int x16, .int x15, .ref x7]) (h' := h13) rfl ?_
          obtain ⟨e20, w18, h17, e19, hf⟩ := zo_v_s hf
          refine zr_cv zq_m206 [.int x15, .int x16, .int (40 : Int32)] [] rfl rfl rfl rfl rfl (Nat.le_of_ble_eq_true rfl) (Nat.le_of_ble_eq_true rfl) e20 (zm_copies_ok sc d (by omega) e19) ?_
          refine zq_wg 0 (pc' := 70) (lv' := [some (.ref x7), some (.int x8), some (.int x9)]) (st' := []) (h' := h17) rfl ?_
          refine zq_wg 2 (pc' := 72) (lv' := [some (.ref x7), some (.int x8), some (.int x9)]) (st' := [.int x9, .ref x7]) (h' := h17) rfl ?_
          obtain ⟨j83_23, hjj83_23, hf⟩ := zo_lj hf
          have kj83_23 : ∀ (x21 : Nat) (x22 : Int32) (h23 : zH), j83_23 x21 x22 h23 = some (ro_, ho_) → zq_wp sc (d + 1) 263 83 [none, none, none] [.int x22, .ref x21] h23 (some (.int ro_), ho_) := by
            intro x21 x22 h23 hf
            rw [hjj83_23] at hf
            obtain ⟨h24, e25, hf⟩ := zo_b_s hf
            refine zr_pI rfl rfl (by decide) rfl rfl e25 ?_
            refine zq_wg 1 (pc' := 87) (lv' := [none, none, none]) (st' := [.int (1 : Int32)]) (h' := h24) rfl ?_
            exact zr_ri rfl rfl rfl hf
          refine zr_if (x9 = 0) 79 75 (st' := [.ref x7]) rfl rfl (fun b26 => ?_) (fun b26 => ?_)
          · have hf := zo_t hf b26
            refine zq_wg 1 (pc' := 80) (lv' := [some (.ref x7), some (.int x8), some (.int x9)]) (st' := [.ref x7, .ref x7]) (h' := h17) rfl ?_
            obtain ⟨v27, e28, hf⟩ := zo_b_s hf
            refine zr_gI rfl rfl (by decide) rfl e28 ?_
            refine zq_fg [none, none, none] (zq_lvle_n (zq_lvle_n (zq_lvle_n zq_lvle_nil))) ?_
            exact kj83_23 x7 v27 h17 hf
          · have hf := zo_f hf b26
            refine zq_wg 2 (pc' := 83) (lv' := [some (.ref x7), some (.int x8), some (.int x9)]) (st' := [.int (0 : Int32), .ref x7]) (h' := h17) rfl ?_
            refine zq_fg [none, none, none] (zq_lvle_n (zq_lvle_n (zq_lvle_n zq_lvle_nil))) ?_
            exact kj83_23 x7 (0 : Int32) h17 hf
        refine zr_if (x9 = 0) 59 55 (st' := [.int x15, .ref x7]) rfl rfl (fun b29 => ?_) (fun b29 => ?_)
        · have hf := zo_lt hf b29
          refine zq_wg 5 (pc' := 65) (lv' := [some (.ref x7), some (.int x8), some (.int x9)]) (st' := [.int ((40 : Int32) * ((1 : Int32) + x8)), .int x15, .ref x7]) (h' := h13) rfl ?_
          exact kg65_16 _ hf
        · have hf := zo_lf hf b29
          refine zq_wg 2 (pc' := 65) (lv' := [some (.ref x7), some (.int x8), some (.int x9)]) (st' := [.int (0 : Int32), .int x15, .ref x7]) (h' := h13) rfl ?_
          exact kg65_16 _ hf
      refine zr_if (x9 = 0) 50 41 (st' := [.ref x7]) rfl rfl (fun b30 => ?_) (fun b30 => ?_)
      · have hf := zo_lt hf b30
        refine zq_wg 1 (pc' := 51) (lv' := [some (.ref x7), some (.int x8), some (.int x9)]) (st' := [.int (0 : Int32), .ref x7]) (h' := h13) rfl ?_
        exact kg51_15 _ hf
      · have hf := zo_lf hf b30
        refine zq_wg 6 (pc' := 51) (lv' := [some (.ref x7), some (.int x8), some (.int x9)]) (st' := [.int ((40 : Int32) * ((1 : Int32) + x8)), .ref x7]) (h' := h13) rfl ?_
        exact kg51_15 _ hf
    refine zr_if (a2 = 0) 29 18 (st' := []) rfl rfl (fun b31 => ?_) (fun b31 => ?_)
    · have hf := zo_t hf b31
      exact kj29_10 a0 a1 a2 h3 hf
    · have hf := zo_f hf b31
      refine zq_wg 1 (pc' := 19) (lv' := [some (.ref a0), some (.int a1), some (.int a2)]) (st' := [.ref a0]) (h' := h3) rfl ?_
      obtain ⟨v32, e33, hf⟩ := zo_b_s hf
      refine zr_gR rfl rfl (by decide) rfl e33 ?_
      refine zq_wg 1 (pc' := 23) (lv' := [some (.ref a0), some (.int a1), some (.int a2)]) (st' := [.int a1, .ref v32]) (h' := h3) rfl ?_
      obtain ⟨v34, e35, hf⟩ := zo_b_s hf
      refine zr_bald rfl e35 ?_
      refine zr_if (v34 = 0) 27 29 (st' := []) rfl rfl (fun b36 => ?_) (fun b36 => ?_)
      · have hf := zo_t hf b36
        refine zq_wg 1 (pc' := 28) (lv' := [some (.ref a0), some (.int a1), some (.int a2)]) (st' := [.int (0 : Int32)]) (h' := h3) rfl ?_
        exact zr_ri rfl rfl rfl hf
      · have hf := zo_f hf b36
        exact kj29_10 a0 a1 a2 h3 hf
set_option maxRecDepth 4000 in
def zm_count_l9 (sc : zX) : Nat → Nat → Int32 → Int32 → Int32 → zH → (Nat → Int32 → Int32 → zH → Option (Int32 × zH)) → Option (Int32 × zH)
  | 0, _, _, _, _, _, _ => none
  | n + 1, y3, y4, y5, y6, h7, k35 => zo_v h7 y3 10 (zm_men sc y3 h7) (fun v9 h8 => if v9 ≤ y6 then (k35 y3 y4 y5 h8) else (zo_b (zo_gR h8 10 y3 25) (fun v13 => zo_b (zq_rdI sc h8 v13 ((10 : Int32) + y6)) (fun v15 => zm_count_l9 sc n y3 y4 (y5 + v15) (y6 + (1 : Int32)) h8 k35))))
set_option maxRecDepth 4000 in
def zm_count (sc : zX) (a0 : Nat) (a1 : Int32) (h : zH) : Option (Int32 × zH) := zo_b (zo_pI h 10 a0 0 (0 : Int32)) (fun h1 => zm_count_l9 sc zo_F a0 a1 (0 : Int32) (0 : Int32) h1 (fun (x17 : Nat) (x18 : Int32) (x19 : Int32) (h20 : zH) => if x18 = (0 : Int32) then (zo_v h20 x17 10 (zm_posts sc x17 h20) (fun v23 h22 => some (v23, h22))) else if x18 = (1 : Int32) then (zo_v h20 x17 10 (zm_men sc x17 h20) (fun v28 h27 => some (v28, h27))) else if x18 = (2 : Int32) then (zo_v h20 x17 10 (zm_cells sc x17 h20) (fun v33 h32 => some (v33, h32))) else if x18 = (3 : Int32) then (zo_b (zo_gR h20 10 x17 25) (fun v37 => zo_b (zq_rdI sc h20 v37 (1 : Int32)) (fun v39 => some (v39, h20)))) else if x18 = (4 : Int32) then (zo_b (zo_gR h20 10 x17 25) (fun v42 => zo_b (zq_rdI sc h20 v42 (0 : Int32)) (fun v44 => some (v44, h20)))) else if x18 = (5 : Int32) then (zo_b (zo_gR h20 10 x17 25) (fun v47 => zo_b (zq_rdI sc h20 v47 (2 : Int32)) (fun v49 => some (v49, h20)))) else if x18 = (6 : Int32) then (some (x19, h20)) else if x18 = (7 : Int32) then (zo_b (zo_gR h20 10 x17 22) (fun v53 => zo_b (zq_rdI sc h20 v53 (0 : Int32)) (fun v55 => some (v55, h20)))) else if x18 = (8 : Int32) then (zo_b (zo_gR h20 10 x17 25) (fun v58 => zo_b (zq_rdI sc h20 v58 (16 : Int32)) (fun v60 => some (v60, h20)))) else if x18 = (9 : Int32) then (zo_b (zo_gR h20 10 x17 25) (fun v63 => zo_b (zq_rdI sc h20 v63 (22 : Int32)) (fun v65 => some (v65, h20)))) else if x18 = (10 : Int32) then (zo_b (zo_gI h20 10 x17 26) (fun v68 => some (v68, h20))) else if x18 = (11 : Int32) then (zo_b (zo_gI h20 10 x17 2) (fun v71 => some (v71, h20))) else if x18 = (12 : Int32) then (zo_v h20 x17 10 (zm_isOver sc x17 (0 : Int32) h20) (fun v75 h74 => if v75 = 0 then (some ((0 : Int32), h74)) else (some ((1 : Int32), h74)))) else (some ((-1 : Int32), h20))))
set_option maxRecDepth 4000 in
theorem zm_count_l9_ok (sc : zX) (d : Nat) (hd : 0 ≤ d) : ∀ (n : Nat) (y3 : Nat) (y4 : Int32) (y5 : Int32) (y6 : Int32) (h7 : zH) (k35 : Nat → Int32 → Int32 → zH → Option (Int32 × zH)) (ro_ : Int32) (ho_ : zH), (∀ (z0 : Nat) (z1 : Int32) (z2 : Int32) (hz : zH), k35 z0 z1 z2 hz = some (ro_, ho_) → zq_wp sc (d + 1) 264 35 [some (.ref z0), some (.int z1), some (.int z2), none] [] hz (some (.int ro_), ho_)) → zm_count_l9 sc n y3 y4 y5 y6 h7 k35 = some (ro_, ho_) → zq_wp sc (d + 1) 264 9 [some (.ref y3), some (.int y4), some (.int y5), some (.int y6)] [] h7 (some (.int ro_), ho_) := by
  intro n
  induction n with
  | zero => intro y3 y4 y5 y6 h7 k35 ro_ ho_ hk35 hf; cases hf
  | succ n ih =>
    intro y3 y4 y5 y6 h7 k35 ro_ ho_ hk35 hf
    refine zq_wg 2 (pc' := 11) (lv' := [some (.ref y3), some (.int y4), some (.int y5), some (.int y6)]) (st' := [.ref y3, .int y6]) (h' := h7) rfl ?_
    obtain ⟨e11, v9, h8, e10, hf⟩ := zo_v_s hf
    refine zr_cv zq_m152 [] [.int y6] rfl rfl rfl rfl rfl (Nat.le_of_ble_eq_true rfl) (Nat.le_of_ble_eq_true rfl) e11 (zm_men_ok sc d (by omega) e10) ?_
    refine zq_wg 0 (pc' := 14) (lv' := [some (.ref y3), some (.int y4), some (.int y5), some (.int y6)]) (st' := [.int v9, .int y6]) (h' := h8) rfl ?_
    refine zr_if (v9 ≤ y6) 35 17 (st' := []) rfl rfl (fun b12 => ?_) (fun b12 => ?_)
    · have hf := zo_t hf b12
      refine zq_fg [some (.ref y3), some (.int y4), some (.int y5), none] (zq_lvle_s (zq_lvle_s (zq_lvle_s (zq_lvle_n zq_lvle_nil)))) ?_
      exact hk35 y3 y4 y5 h8 hf
    · have hf := zo_f hf b12
      refine zq_wg 2 (pc' := 19) (lv' := [some (.ref y3), some (.int y4), some (.int y5), some (.int y6)]) (st' := [.ref y3, .int y5]) (h' := h8) rfl ?_
      obtain ⟨v13, e14, hf⟩ := zo_b_s hf
      refine zr_gR rfl rfl (by decide) rfl e14 ?_
      refine zq_wg 3 (pc' := 26) (lv' := [some (.ref y3), some (.int y4), some (.int y5), some (.int y6)]) (st' := [.int ((10 : Int32) + y6), .ref v13, .int y5]) (h' := h8) rfl ?_
      obtain ⟨v15, e16, hf⟩ := zo_b_s hf
      refine zr_iald rfl e16 ?_
      refine zq_wg 4 (pc' := 9) (lv' := [some (.ref y3), some (.int y4), some (.int (y5 + v15)), some (.int (y6 + (1 : Int32)))]) (st' := []) (h' := h8) rfl ?_
      exact ih y3 y4 (y5 + v15) (y6 + (1 : Int32)) h8 _ _ _ hk35 hf
set_option maxRecDepth 4000 in
theorem zm_count_ok (sc : zX) (d : Nat) (hd : 1 ≤ d) {a0 : Nat} {a1 : Int32} {h : zH} {ro_ : Int32} {ho_ : zH} (hf : zm_count sc a0 a1 h = some (ro_, ho_)) : zq_wm sc d 264 [.ref a0, .int a1] h (some (.int ro_), ho_) := by
  unfold zm_count at hf
  obtain ⟨d, rfl⟩ : ∃ d', d = d' + 1 := ⟨d - 1, by omega⟩
  have hd : 0 ≤ d := by omega
  show zq_wp sc (d + 1) 264 0 [some (.ref a0), some (.int a1), none, none] [] h _
  refine zq_wg 2 (pc' := 2) (lv' := [some (.ref a0), some (.int a1), none, none]) (st' := [.int (0 : Int32), .ref a0]) (h' := h) rfl ?_
  obtain ⟨h1, e2, hf⟩ := zo_b_s hf
  refine zr_pI rfl rfl (by decide) rfl rfl e2 ?_
  refine zq_wg 4 (pc' := 9) (lv' := [some (.ref a0), some (.int a1), some (.int (0 : Int32)), some (.int (0 : Int32))]) (st' := []) (h' := h1) rfl ?_
  refine zm_count_l9_ok sc d hd zo_F a0 a1 (0 : Int32) (0 : Int32) h1 _ _ _ ?_ hf
  · intro x17 x18 x19 h20 hf
    refine zq_wg 1 (pc' := 36) (lv' := [some (.ref x17), some (.int x18), some (.int x19), none]) (st' := [.int x18]) (h' := h20) rfl ?_
    by_cases b21 : x18 = (0 : Int32)
    · have hf := zo_t hf b21
      refine zr_ts (t := 104) rfl (by rw [b21]; rfl) ?_
      refine zq_wg 1 (pc' := 105) (lv' := [some (.ref x17), some (.int x18), some (.int x19), none]) (st' := [.ref x17]) (h' := h20) rfl ?_
      obtain ⟨e25, v23, h22, e24, hf⟩ := zo_v_s hf
      refine zr_cv zq_m151 [] [] rfl rfl rfl rfl rfl (Nat.le_of_ble_eq_true rfl) (Nat.le_of_ble_eq_true rfl) e25 (zm_posts_ok sc d (by omega) e24) ?_
      refine zq_wg 0 (pc' := 108) (lv' := [some (.ref x17), some (.int x18), some (.int x19), none]) (st' := [.int v23]) (h' := h22) rfl ?_
      exact zr_ri rfl rfl rfl hf
    have hf := zo_f hf b21
    by_cases b26 : x18 = (1 : Int32)
    · have hf := zo_t hf b26
      refine zr_ts (t := 109) rfl (by rw [b26]; rfl) ?_
      refine zq_wg 1 (pc' := 110) (lv' := [some (.ref x17), some (.int x18), some (.int x19), none]) (st' := [.ref x17]) (h' := h20) rfl ?_
      obtain ⟨e30, v28, h27, e29, hf⟩ := zo_v_s hf
      refine zr_cv zq_m152 [] [] rfl rfl rfl rfl rfl (Nat.le_of_ble_eq_true rfl) (Nat.le_of_ble_eq_true rfl) e30 (zm_men_ok sc d (by omega) e29) ?_
      refine zq_wg 0 (pc' := 113) (lv' := [some (.ref x17), some (.int x18), some (.int x19), none]) (st' := [.int v28]) (h' := h27) rfl ?_
      exact zr_ri rfl rfl rfl hf
    have hf := zo_f hf b26
    by_cases b31 : x18 = (2 : Int32)
    · have hf := zo_t hf b31
      refine zr_ts (t := 114) rfl (by rw [b31]; rfl) ?_
      refine zq_wg 1 (pc' := 115) (lv' := [some (.ref x17), some (.int x18), some (.int x19), none]) (st' := [.ref x17]) (h' := h20) rfl ?_
      obtain ⟨e35, v33, h32, e34, hf⟩ := zo_v_s hf
      refine zr_cv zq_m215 [] [] rfl rfl rfl rfl rfl (Nat.le_of_ble_eq_true rfl) (Nat.le_of_ble_eq_true rfl) e35 (zm_cells_ok sc d (by omega) e34) ?_
      refine zq_wg 0 (pc' := 118) (lv' := [some (.ref x17), some (.int x18), some (.int x19), none]) (st' := [.int v33]) (h' := h32) rfl ?_
      exact zr_ri rfl rfl rfl hf
    have hf := zo_f hf b31
    by_cases b36 : x18 = (3 : Int32)
    · have hf := zo_t hf b36
      refine zr_ts (t := 119) rfl (by rw [b36]; rfl) ?_
      refine zq_wg 1 (pc' := 120) (lv' := [some (.ref x17), some (.int x18), some (.int x19), none]) (st' := [.ref x17]) (h' := h20) rfl ?_
      obtain ⟨v37, e38, hf⟩ := zo_b_s hf
      refine zr_gR rfl rfl (by decide) rfl e38 ?_
      refine zq_wg 1 (pc' := 124) (lv' := [some (.ref x17), some (.int x18), some (.int x19), none]) (st' := [.int (1 : Int32), .ref v37]) (h' := h20) rfl ?_
      obtain ⟨v39, e40, hf⟩ := zo_b_s hf
      refine zr_iald rfl e40 ?_
      exact zr_ri rfl rfl rfl hf
    have hf := zo_f hf b36
    by_cases b41 : x18 = (4 : Int32)
    · have hf := zo_t hf b41
      refine zr_ts (t := 126) rfl (by rw [b41]; rfl) ?_
      refine zq_wg 1 (pc' := 127) (lv' := [some (.ref x17), some (.int x18), some (.int x19), none]) (st' := [.ref x17]) (h' := h20) rfl ?_
      obtain ⟨v42, e43, hf⟩ := zo_b_s hf
      refine zr_gR rfl rfl (by decide) rfl e43 ?_
      refine zq_wg 1 (pc' := 131) (lv' := [some (.ref x17), some (.int x18), some (.int x19), none]) (st' := [.int (0 : Int32), .ref v42]) (h' := h20) rfl ?_
      obtain ⟨v44, e45, hf⟩ := zo_b_s hf
      refine zr_iald rfl e45 ?_
      exact zr_ri rfl rfl rfl hf
    have hf := zo_f hf b41
    by_cases b46 : x18 = (5 : Int32)
    · have hf := zo_t hf b46
      refine zr_ts (t := 133) rfl (by rw [b46]; rfl) ?_
      refine zq_wg 1 (pc' := 134) (lv' := [some (.ref x17), some (.int x18), some (.int x19), none]) (st' := [.ref x17]) (h' := h20) rfl ?_
      obtain ⟨v47, e48, hf⟩ := zo_b_s hf
      refine zr_gR rfl rfl (by decide) rfl e48 ?_
      refine zq_wg 1 (pc' := 138) (lv' := [some (.ref x17), some (.int x18), some (.int x19), none]) (st' := [.int (2 : Int32), .ref v47]) (h' := h20) rfl ?_
      obtain ⟨v49, e50, hf⟩ := zo_b_s hf
      refine zr_iald rfl e50 ?_
      exact zr_ri rfl rfl rfl hf
    have hf := zo_f hf b46
    by_cases b51 : x18 = (6 : Int32)
    · have hf := zo_t hf b51
      refine zr_ts (t := 140) rfl (by rw [b51]; rfl) ?_
      refine zq_wg 1 (pc' := 141) (lv' := [some (.ref x17), some (.int x18), some (.int x19), none]) (st' := [.int x19]) (h' := h20) rfl ?_
      exact zr_ri rfl rfl rfl hf
    have hf := zo_f hf b51
    by_cases b52 : x18 = (7 : Int32)
    · have hf := zo_t hf b52
      refine zr_ts (t := 142) rfl (by rw [b52]; rfl) ?_
      refine zq_wg 1 (pc' := 143) (lv' := [some (.ref x17), some (.int x18), some (.int x19), none]) (st' := [.ref x17]) (h' := h20) rfl ?_
      obtain ⟨v53, e54, hf⟩ := zo_b_s hf
      refine zr_gR rfl rfl (by decide) rfl e54 ?_
      refine zq_wg 1 (pc' := 147) (lv' := [some (.ref x17), some (.int x18), some (.int x19), none]) (st' := [.int (0 : Int32), .ref v53]) (h' := h20) rfl ?_
      obtain ⟨v55, e56, hf⟩ := zo_b_s hf
      refine zr_iald rfl e56 ?_
      exact zr_ri rfl rfl rfl hf
    have hf := zo_f hf b52
    by_cases b57 : x18 = (8 : Int32)
    · have hf := zo_t hf b57
      refine zr_ts (t := 149) rfl (by rw [b57]; rfl) ?_
      refine zq_wg 1 (pc' := 150) (lv' := [some (.ref x17), some (.int x18), some (.int x19), none]) (st' := [.ref x17]) (h' := h20) rfl ?_
      obtain ⟨v58, e59, hf⟩ := zo_b_s hf
      refine zr_gR rfl rfl (by decide) rfl e59 ?_
      refine zq_wg 1 (pc' := 155) (lv' := [some (.ref x17), some (.int x18), some (.int x19), none]) (st' := [.int (16 : Int32), .ref v58]) (h' := h20) rfl ?_
      obtain ⟨v60, e61, hf⟩ := zo_b_s hf
      refine zr_iald rfl e61 ?_
      exact zr_ri rfl rfl rfl hf
    have hf := zo_f hf b57
    by_cases b62 : x18 = (9 : Int32)
    · have hf := zo_t hf b62
      refine zr_ts (t := 157) rfl (by rw [b62]; rfl) ?_
      refine zq_wg 1 (pc' := 158) (lv' := [some (.ref x17), some (.int x18), some (.int x19), none]) (st' := [.ref x17]) (h' := h20) rfl ?_
      obtain ⟨v63, e64, hf⟩ := zo_b_s hf
      refine zr_gR rfl rfl (by decide) rfl e64 ?_
      refine zq_wg 1 (pc' := 163) (lv' := [some (.ref x17), some (.int x18), some (.int x19), none]) (st' := [.int (22 : Int32), .ref v63]) (h' := h20) rfl ?_
      obtain ⟨v65, e66, hf⟩ := zo_b_s hf
      refine zr_iald rfl e66 ?_
      exact zr_ri rfl rfl rfl hf
    have hf := zo_f hf b62
    by_cases b67 : x18 = (10 : Int32)
    · have hf := zo_t hf b67
      refine zr_ts (t := 165) rfl (by rw [b67]; rfl) ?_
      refine zq_wg 1 (pc' := 166) (lv' := [some (.ref x17), some (.int x18), some (.int x19), none]) (st' := [.ref x17]) (h' := h20) rfl ?_
      obtain ⟨v68, e69, hf⟩ := zo_b_s hf
      refine zr_gI rfl rfl (by decide) rfl e69 ?_
      exact zr_ri rfl rfl rfl hf
    have hf := zo_f hf b67
    by_cases b70 : x18 = (11 : Int32)
    · have hf := zo_t hf b70
      refine zr_ts (t := 170) rfl (by rw [b70]; rfl) ?_
      refine zq_wg 1 (pc' := 171) (lv' := [some (.ref x17), some (.int x18), some (.int x19), none]) (st' := [.ref x17]) (h' := h20) rfl ?_
      obtain ⟨v71, e72, hf⟩ := zo_b_s hf
      refine zr_gI rfl rfl (by decide) rfl e72 ?_
      exact zr_ri rfl rfl rfl hf
    have hf := zo_f hf b70
    by_cases b73 : x18 = (12 : Int32)
    · have hf := zo_t hf b73
      refine zr_ts (t := 175) rfl (by rw [b73]; rfl) ?_
      refine zq_wg 2 (pc' := 177) (lv' := [some (.ref x17), some (.int x18), some (.int x19), none]) (st' := [.int (0 : Int32), .ref x17]) (h' := h20) rfl ?_
      obtain ⟨e77, v75, h74, e76, hf⟩ := zo_v_s hf
      refine zr_cv zq_m216 [.int (0 : Int32)] [] rfl rfl rfl rfl rfl (Nat.le_of_ble_eq_true rfl) (Nat.le_of_ble_eq_true rfl) e77 (zm_isOver_ok sc d (by omega) e76) ?_
      refine zq_wg 0 (pc' := 180) (lv' := [some (.ref x17), some (.int x18), some (.int x19), none]) (st' := [.int v75]) (h' := h74) rfl ?_
      refine zr_if (v75 = 0) 187 183 (st' := []) rfl rfl (fun b78 => ?_) (fun b78 => ?_)
      · have hf := zo_t hf b78
        refine zq_wg 1 (pc' := 188) (lv' := [some (.ref x17), some (.int x18), some (.int x19), none]) (st' := [.int (0 : Int32)]) (h' := h74) rfl ?_
        exact zr_ri rfl rfl rfl hf
      · have hf := zo_f hf b78
        refine zq_wg 2 (pc' := 188) (lv' := [some (.ref x17), some (.int x18), some (.int x19), none]) (st' := [.int (1 : Int32)]) (h' := h74) rfl ?_
        exact zr_ri rfl rfl rfl hf
    have hf := zo_f hf b73
    refine zr_ts (t := 189) rfl (by unfold zo_ts; rw [if_pos (by have eb21 := zo_ne b21 (z := 0) (by decide); have eb26 := zo_ne b26 (z := 1) (by decide); have eb31 := zo_ne b31 (z := 2) (by decide); have eb36 := zo_ne b36 (z := 3) (by decide); have eb41 := zo_ne b41 (z := 4) (by decide); have eb46 := zo_ne b46 (z := 5) (by decide); have eb51 := zo_ne b51 (z := 6) (by decide); have eb52 := zo_ne b52 (z := 7) (by decide); have eb57 := zo_ne b57 (z := 8) (by decide); have eb62 := zo_ne b62 (z := 9) (by decide); have eb67 := zo_ne b67 (z := 10) (by decide); have eb70 := zo_ne b70 (z := 11) (by decide); have eb73 := zo_ne b73 (z := 12) (by decide); omega)]; rfl) ?_
    refine zq_wg 1 (pc' := 190) (lv' := [some (.ref x17), some (.int x18), some (.int x19), none]) (st' := [.int (-1 : Int32)]) (h' := h20) rfl ?_
    exact zr_ri rfl rfl rfl hf
