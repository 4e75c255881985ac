/-! methods as functions, and their walks; printed by wip/whole/decomp.py -/
set_option maxRecDepth 4000 in
def zx_Laws_readLaw (sc : zX) (a0 : Nat) (a1 : Nat) (a2 : Int32) (h : zH) : Option (Int32 × zH) := zo_b (zo_gR h 1 a0 1) (fun v1 => zo_b (zo_gI h 1 a0 5) (fun v3 => zo_c (zx_put sc v1 a2 v3 h) (fun w6 h5 => zo_v h5 a0 1 (zx_Laws_readTests sc 64 a0 a1 a2 (0 : Int32) h5) (fun v9 h8 => zo_b (zo_gR h8 1 a0 2) (fun v12 => zo_b (zo_gI h8 1 a0 5) (fun v14 => zo_c (zx_put sc v12 a2 v14 h8) (fun w17 h16 => zo_rb v9 h16)))))))
set_option maxRecDepth 4000 in
theorem zx_Laws_readLaw_ok (sc : zX) (d : Nat) (hd : 68 ≤ d) {a0 : Nat} {a1 : Nat} {a2 : Int32} {h : zH} {ro_ : Int32} {ho_ : zH} (hf : zx_Laws_readLaw sc a0 a1 a2 h = some (ro_, ho_)) : zq_wm sc d 40 [.ref a0, .ref a1, .int a2] h (some (.int ro_), ho_) := by
  unfold zx_Laws_readLaw at hf
  obtain ⟨d, rfl⟩ : ∃ d', d = d' + 1 := ⟨d - 1, by omega⟩
  have hd : 67 ≤ d := by omega
  show zq_wp sc (d + 1) 40 0 [some (.ref a0), some (.ref a1), some (.int a2), none] [] h _
  refine zq_wg 1 (pc' := 1) (lv' := [some (.ref a0), some (.ref a1), some (.int a2), none]) (st' := [.ref a0]) (h' := h) rfl ?_
  obtain ⟨v1, e2, hf⟩ := zo_b_s hf
  refine zr_gR rfl rfl (by decide) rfl e2 ?_
  refine zq_wg 2 (pc' := 6) (lv' := [some (.ref a0), some (.ref a1), some (.int a2), none]) (st' := [.ref a0, .int a2, .ref v1]) (h' := h) rfl ?_
  obtain ⟨v3, e4, hf⟩ := zo_b_s hf
  refine zr_gI rfl rfl (by decide) rfl e4 ?_
  obtain ⟨w6, h5, e7, hf⟩ := zo_c_s hf
  refine zr_cs zq_m11 [.ref v1, .int a2, .int v3] [] rfl rfl (by decide) rfl rfl rfl (Nat.le_of_ble_eq_true rfl) (Nat.le_of_ble_eq_true rfl) (zx_put_ok sc d (by omega) e7) ?_
  refine zq_wg 0 (pc' := 12) (lv' := [some (.ref a0), some (.ref a1), some (.int a2), none]) (st' := []) (h' := h5) rfl ?_
  refine zq_wg 4 (pc' := 16) (lv' := [some (.ref a0), some (.ref a1), some (.int a2), none]) (st' := [.int (0 : Int32), .int a2, .ref a1, .ref a0]) (h' := h5) rfl ?_
  obtain ⟨e11, v9, h8, e10, hf⟩ := zo_v_s hf
  refine zr_cv zq_m41 [.ref a1, .int a2, .int (0 : Int32)] [] rfl rfl rfl rfl rfl (Nat.le_of_ble_eq_true rfl) (Nat.le_of_ble_eq_true rfl) e11 (zx_Laws_readTests_ok sc 64 d (by omega) e10) ?_
  refine zq_wg 0 (pc' := 19) (lv' := [some (.ref a0), some (.ref a1), some (.int a2), none]) (st' := [.int v9]) (h' := h8) rfl ?_
  refine zq_wg 2 (pc' := 21) (lv' := [some (.ref a0), some (.ref a1), some (.int a2), some (.int v9)]) (st' := [.ref a0]) (h' := h8) rfl ?_
  obtain ⟨v12, e13, hf⟩ := zo_b_s hf
  refine zr_gR rfl rfl (by decide) rfl e13 ?_
  refine zq_wg 2 (pc' := 26) (lv' := [some (.ref a0), some (.ref a1), some (.int a2), some (.int v9)]) (st' := [.ref a0, .int a2, .ref v12]) (h' := h8) rfl ?_
  obtain ⟨v14, e15, hf⟩ := zo_b_s hf
  refine zr_gI rfl rfl (by decide) rfl e15 ?_
  obtain ⟨w17, h16, e18, hf⟩ := zo_c_s hf
  refine zr_cs zq_m11 [.ref v12, .int a2, .int v14] [] rfl rfl (by decide) rfl rfl rfl (Nat.le_of_ble_eq_true rfl) (Nat.le_of_ble_eq_true rfl) (zx_put_ok sc d (by omega) e18) ?_
  refine zq_wg 0 (pc' := 32) (lv' := [some (.ref a0), some (.ref a1), some (.int a2), some (.int v9)]) (st' := []) (h' := h16) rfl ?_
  refine zq_wg 1 (pc' := 33) (lv' := [some (.ref a0), some (.ref a1), some (.int a2), some (.int v9)]) (st' := [.int v9]) (h' := h16) rfl ?_
  exact zr_rb rfl rfl hf
set_option maxRecDepth 4000 in
def zx_Army_readFront (sc : zX) (a0 : Nat) (a1 : Nat) (h : zH) : Option (Int32 × zH) := zo_v h a1 5 (zx_Tape_takeNumber sc a1 (4 : Int32) (40 : Int32) h) (fun v2 h1 => if v2 = 0 then (some ((0 : Int32), h1)) else (zo_b (zo_gI h1 5 a1 5) (fun v6 => zo_b (zo_pI h1 0 a0 2 v6) (fun h8 => zo_v h8 a1 5 (zx_Tape_takeWord sc a1 (some 7) h8) (fun v11 h10 => if v11 = 0 then (some ((0 : Int32), h10)) else (zo_b (zo_gI h10 0 a0 2) (fun v15 => zo_v h10 a1 5 (zx_Tape_takeNumber sc a1 (1 : Int32) (v15 - (1 : Int32)) h10) (fun v18 h17 => if v18 = 0 then (some ((0 : Int32), h17)) else (zo_b (zo_gI h17 5 a1 5) (fun v22 => zo_b (zo_pI h17 0 a0 3 v22) (fun h24 => some ((1 : Int32), h24))))))))))))
set_option maxRecDepth 4000 in
theorem zx_Army_readFront_ok (sc : zX) (d : Nat) (hd : 3 ≤ d) {a0 : Nat} {a1 : Nat} {h : zH} {ro_ : Int32} {ho_ : zH} (hf : zx_Army_readFront sc a0 a1 h = some (ro_, ho_)) : zq_wm sc d 48 [.ref a0, .ref a1] h (some (.int ro_), ho_) := by
  unfold zx_Army_readFront at hf
  obtain ⟨d, rfl⟩ : ∃ d', d = d' + 1 := ⟨d - 1, by omega⟩
  have hd : 2 ≤ d := by omega
  show zq_wp sc (d + 1) 48 0 [some (.ref a0), some (.ref a1)] [] h _
  refine zq_wg 3 (pc' := 4) (lv' := [some (.ref a0), some (.ref a1)]) (st' := [.int (40 : Int32), .int (4 : Int32), .ref a1]) (h' := h) rfl ?_
  obtain ⟨e4, v2, h1, e3, hf⟩ := zo_v_s hf
  refine zr_cv zq_m34 [.int (4 : Int32), .int (40 : Int32)] [] rfl rfl rfl rfl rfl (Nat.le_of_ble_eq_true rfl) (Nat.le_of_ble_eq_true rfl) e4 (zx_Tape_takeNumber_ok sc d (by omega) e3) ?_
  refine zq_wg 0 (pc' := 7) (lv' := [some (.ref a0), some (.ref a1)]) (st' := [.int v2]) (h' := h1) rfl ?_
  refine zr_if (v2 = 0) 10 12 (st' := []) rfl rfl (fun b5 => ?_) (fun b5 => ?_)
  · have hf := zo_t hf b5
    refine zq_wg 1 (pc' := 11) (lv' := [some (.ref a0), some (.ref a1)]) (st' := [.int (0 : Int32)]) (h' := h1) rfl ?_
    exact zr_ri rfl rfl rfl hf
  · have hf := zo_f hf b5
    refine zq_wg 2 (pc' := 14) (lv' := [some (.ref a0), some (.ref a1)]) (st' := [.ref a1, .ref a0]) (h' := h1) rfl ?_
    obtain ⟨v6, e7, hf⟩ := zo_b_s hf
    refine zr_gI rfl rfl (by decide) rfl e7 ?_
    obtain ⟨h8, e9, hf⟩ := zo_b_s hf
    refine zr_pI rfl rfl (by decide) rfl rfl e9 ?_
    refine zq_wg 2 (pc' := 24) (lv' := [some (.ref a0), some (.ref a1)]) (st' := [.ref 7, .ref a1]) (h' := h8) rfl ?_
    obtain ⟨e13, v11, h10, e12, hf⟩ := zo_v_s hf
    refine zr_cv zq_m33 [va_rf (some 7)] [] rfl rfl rfl rfl rfl (Nat.le_of_ble_eq_true rfl) (Nat.le_of_ble_eq_true rfl) e13 (zx_Tape_takeWord_ok sc d (by omega) e12) ?_
    refine zq_wg 0 (pc' := 27) (lv' := [some (.ref a0), some (.ref a1)]) (st' := [.int v11]) (h' := h10) rfl ?_
    refine zr_if (v11 = 0) 44 30 (st' := []) rfl rfl (fun b14 => ?_) (fun b14 => ?_)
    · have hf := zo_t hf b14
      refine zq_wg 1 (pc' := 45) (lv' := [some (.ref a0), some (.ref a1)]) (st' := [.int (0 : Int32)]) (h' := h10) rfl ?_
      exact zr_ri rfl rfl rfl hf
    · have hf := zo_f hf b14
      refine zq_wg 3 (pc' := 33) (lv' := [some (.ref a0), some (.ref a1)]) (st' := [.ref a0, .int (1 : Int32), .ref a1]) (h' := h10) rfl ?_
      obtain ⟨v15, e16, hf⟩ := zo_b_s hf
      refine zr_gI rfl rfl (by decide) rfl e16 ?_
      refine zq_wg 2 (pc' := 38) (lv' := [some (.ref a0), some (.ref a1)]) (st' := [.int (v15 - (1 : Int32)), .int (1 : Int32), .ref a1]) (h' := h10) rfl ?_
      obtain ⟨e20, v18, h17, e19, hf⟩ := zo_v_s hf
      refine zr_cv zq_m34 [.int (1 : Int32), .int (v15 - (1 : Int32))] [] rfl rfl rfl rfl rfl (Nat.le_of_ble_eq_true rfl) (Nat.le_of_ble_eq_true rfl) e20 (zx_Tape_takeNumber_ok sc d (by omega) e19) ?_
      refine zq_wg 0 (pc' := 41) (lv' := [some (.ref a0), some (.ref a1)]) (st' := [.int v18]) (h' := h17) rfl ?_
      refine zr_if (v18 = 0) 44 46 (st' := []) rfl rfl (fun b21 => ?_) (fun b21 => ?_)
      · have hf := zo_t hf b21
        refine zq_wg 1 (pc' := 45) (lv' := [some (.ref a0), some (.ref a1)]) (st' := [.int (0 : Int32)]) (h' := h17) rfl ?_
        exact zr_ri rfl rfl rfl hf
      · have hf := zo_f hf b21
        refine zq_wg 2 (pc' := 48) (lv' := [some (.ref a0), some (.ref a1)]) (st' := [.ref a1, .ref a0]) (h' := h17) rfl ?_
        obtain ⟨v22, e23, hf⟩ := zo_b_s hf
        refine zr_gI rfl rfl (by decide) rfl e23 ?_
        obtain ⟨h24, e25, hf⟩ := zo_b_s hf
        refine zr_pI rfl rfl (by decide) rfl rfl e25 ?_
        refine zq_wg 1 (pc' := 55) (lv' := [some (.ref a0), some (.ref a1)]) (st' := [.int (1 : Int32)]) (h' := h24) rfl ?_
        exact zr_ri rfl rfl rfl hf
set_option maxRecDepth 4000 in
def zx_Army_readOnce (sc : zX) (a0 : Nat) (a1 : Nat) (a2 : Option Nat) (h : zH) : Option (Int32 × zH) := if zo_okb a2 = true then if a2 = (some 14) then (zo_v h a0 0 (zx_Army_readFront sc a0 a1 h) (fun v4 h3 => zo_rb v4 h3)) else (zo_l (fun (x7 : Nat) (x8 : Nat) (x9 : Option Nat) (x10 : Int32) (h11 : zH) => zo_l (fun (x12 : Nat) (x13 : Nat) (x14 : Option Nat) (x15 : Int32) (x16 : Int32) (h17 : zH) => zo_v h17 x13 5 (zx_Tape_takeNumber sc x13 x15 x16 h17) (fun v19 h18 => if v19 = 0 then (some ((0 : Int32), h18)) else (if zo_okb x14 = true then if x14 = (some 16) then (zo_b (zo_gI h18 5 x13 5) (fun v25 => zo_b (zo_pI h18 0 x12 5 v25) (fun h27 => some ((1 : Int32), h27)))) else (if zo_okb x14 = true then if x14 = (some 17) then (zo_b (zo_gI h18 5 x13 5) (fun v31 => zo_b (zo_pI h18 0 x12 6 v31) (fun h33 => some ((1 : Int32), h33)))) else (zo_b (zo_gI h18 5 x13 5) (fun v35 => zo_b (zo_pI h18 0 x12 4 v35) (fun h37 => some ((1 : Int32), h37)))) else none) else none))) (fun j53_17 => if zo_okb x9 = true then if x9 = (some 16) then (j53_17 x7 x8 x9 x10 (13 : Int32) h11) else (if zo_okb x9 = true then if x9 = (some 17) then (j53_17 x7 x8 x9 x10 (99 : Int32) h11) else (j53_17 x7 x8 x9 x10 (999 : Int32) h11) else none) else none)) (fun j25_11 => if zo_okb a2 = true then if a2 = (some 16) then (j25_11 a0 a1 a2 (1 : Int32) h) else (j25_11 a0 a1 a2 (0 : Int32) h) else none)) else none
set_option maxRecDepth 4000 in
theorem zx_Army_readOnce_ok (sc : zX) (d : Nat) (hd : 4 ≤ d) {a0 : Nat} {a1 : Nat} {a2 : Option Nat} {h : zH} {ro_ : Int32} {ho_ : zH} (hf : zx_Army_readOnce sc a0 a1 a2 h = some (ro_, ho_)) : zq_wm sc d 47 [.ref a0, .ref a1, va_rf a2] h (some (.int ro_), ho_) := by
  unfold zx_Army_readOnce at hf
  obtain ⟨d, rfl⟩ : ∃ d', d = d' + 1 := ⟨d - 1, by omega⟩
  have hd : 3 ≤ d := by omega
  unfold zq_wm
  rw [show zq_ent (zq_maxL 47) [.ref a0, .ref a1, va_rf a2] = [some (.ref a0), some (.ref a1), some (va_rf a2), none, none] from by cases a2 <;> rfl]
  refine zr_aldQn rfl rfl ?_
  refine zq_wg 1 (pc' := 4) (lv' := [some (.ref a0), some (.ref a1), some (va_rf a2), none, none]) (st' := [.ref 14, va_rf a2]) (h' := h) rfl ?_
  by_cases b2 : zo_okb a2 = true
  case neg => rw [if_neg b2] at hf; cases hf
  have hf := zo_t hf b2
  refine zr_ane a2 (some 14) rfl rfl (zo_okb_ok b2) (zo_okb_ok rfl) (fun b1 => ?_) (fun b1 => ?_)
  · have hf := zo_t hf b1
    refine zq_wg 2 (pc' := 9) (lv' := [some (.ref a0), some (.ref a1), some (va_rf a2), none, none]) (st' := [.ref a1, .ref a0]) (h' := h) rfl ?_
    obtain ⟨e6, v4, h3, e5, hf⟩ := zo_v_s hf
    refine zr_cv zq_m48 [.ref a1] [] rfl rfl rfl rfl rfl (Nat.le_of_ble_eq_true rfl) (Nat.le_of_ble_eq_true rfl) e6 (zx_Army_readFront_ok sc d (by omega) e5) ?_
    refine zq_wg 0 (pc' := 12) (lv' := [some (.ref a0), some (.ref a1), some (va_rf a2), none, none]) (st' := [.int v4]) (h' := h3) rfl ?_
    exact zr_rb rfl rfl hf
  · have hf := zo_f hf b1
    refine zr_aldQn rfl rfl ?_
    refine zq_wg 1 (pc' := 17) (lv' := [some (.ref a0), some (.ref a1), some (va_rf a2), none, none]) (st' := [.ref 16, va_rf a2]) (h' := h) rfl ?_
    obtain ⟨j25_11, hjj25_11, hf⟩ := zo_lj hf
    have kj25_11 : ∀ (x7 : Nat) (x8 : Nat) (x9 : Option Nat) (x10 : Int32) (h11 : zH), j25_11 x7 x8 x9 x10 h11 = some (ro_, ho_) → zq_wp sc (d + 1) 47 25 [some (.ref x7), some (.ref x8), some (va_rf x9), none, none] [.int x10] h11 (some (.int ro_), ho_) := by
      intro x7 x8 x9 x10 h11 hf
      rw [hjj25_11] at hf
      refine zr_istn [some (.ref x7), some (.ref x8), some (va_rf x9), some (.int x10), none] rfl (by cases x9 <;> rfl) ?_
      refine zr_aldQn rfl rfl ?_
      refine zq_wg 1 (pc' := 30) (lv' := [some (.ref x7), some (.ref x8), some (va_rf x9), some (.int x10), none]) (st' := [.ref 16, va_rf x9]) (h' := h11) rfl ?_
      obtain ⟨j53_17, hjj53_17, hf⟩ := zo_lj hf
      have kj53_17 : ∀ (x12 : Nat) (x13 : Nat) (x14 : Option Nat) (x15 : Int32) (x16 : Int32) (h17 : zH), j53_17 x12 x13 x14 x15 x16 h17 = some (ro_, ho_) → zq_wp sc (d + 1) 47 53 [some (.ref x12), some (.ref x13), some (va_rf x14), some (.int x15), none] [.int x16] h17 (some (.int ro_), ho_) := by
        intro x12 x13 x14 x15 x16 h17 hf
        rw [hjj53_17] at hf
        refine zq_wg 4 (pc' := 59) (lv' := [some (.ref x12), some (.ref x13), some (va_rf x14), some (.int x15), some (.int x16)]) (st' := [.int x16, .int x15, .ref x13]) (h' := h17) rfl ?_
        obtain ⟨e21, v19, h18, e20, hf⟩ := zo_v_s hf
        refine zr_cv zq_m34 [.int x15, .int x16] [] rfl rfl rfl rfl rfl (Nat.le_of_ble_eq_true rfl) (Nat.le_of_ble_eq_true rfl) e21 (zx_Tape_takeNumber_ok sc d (by omega) e20) ?_
        refine zq_wg 0 (pc' := 62) (lv' := [some (.ref x12), some (.ref x13), some (va_rf x14), some (.int x15), some (.int x16)]) (st' := [.int v19]) (h' := h18) rfl ?_
        refine zr_if (v19 = 0) 65 67 (st' := []) rfl rfl (fun b22 => ?_) (fun b22 => ?_)
        · have hf := zo_t hf b22
          refine zq_wg 1 (pc' := 66) (lv' := [some (.ref x12), some (.ref x13), some (va_rf x14), some (.int x15), some (.int x16)]) (st' := [.int (0 : Int32)]) (h' := h18) rfl ?_
          exact zr_ri rfl rfl rfl hf
        · have hf := zo_f hf b22
          refine zr_aldQn rfl rfl ?_
          refine zq_wg 1 (pc' := 71) (lv' := [some (.ref x12), some (.ref x13), some (va_rf x14), some (.int x15), some (.int x16)]) (st' := [.ref 16, va_rf x14]) (h' := h18) rfl ?_
          by_cases b24 : zo_okb x14 = true
          case neg => rw [if_neg b24] at hf; cases hf
          have hf := zo_t hf b24
          refine zr_ane x14 (some 16) rfl rfl (zo_okb_ok b24) (zo_okb_ok rfl) (fun b23 => ?_) (fun b23 => ?_)
          · have hf := zo_t hf b23
            refine zq_wg 2 (pc' := 76) (lv' := [some (.ref x12), some (.ref x13), some (va_rf x14), some (.int x15), some (.int x16)]) (st' := [.ref x13, .ref x12]) (h' := h18) rfl ?_
            obtain ⟨v25, e26, hf⟩ := zo_b_s hf
            refine zr_gI rfl rfl (by decide) rfl e26 ?_
            obtain ⟨h27, e28, hf⟩ := zo_b_s hf
            refine zr_pI rfl rfl (by decide) rfl rfl e28 ?_
            refine zq_wg 2 (pc' := 112) (lv' := [some (.ref x12), some (.ref x13), some (va_rf x14), some (.int x15), some (.int x16)]) (st' := [.int (1 : Int32)]) (h' := h27) rfl ?_
            exact zr_ri rfl rfl rfl hf
          · have hf := zo_f hf b23
            refine zr_aldQn rfl rfl ?_
            refine zq_wg 1 (pc' := 89) (lv' := [some (.ref x12), some (.ref x13), some (va_rf x14), some (.int x15), some (.int x16)]) (st' := [.ref 17, va_rf x14]) (h' := h18) rfl ?_
            by_cases b30 : zo_okb x14 = true
            case neg => rw [if_neg b30] at hf; cases hf
            have hf := zo_t hf b30
            refine zr_ane x14 (some 17) rfl rfl (zo_okb_ok b30) (zo_okb_ok rfl) (fun b29 => ?_) (fun b29 => ?_)
            · have hf := zo_t hf b29
              refine zq_wg 2 (pc' := 94) (lv' := [some (.ref x12), some (.ref x13), some (va_rf x14), some (.int x15), some (.int x16)]) (st' := [.ref x13, .ref x12]) (h' := h18) rfl ?_
              obtain ⟨v31, e32, hf⟩ := zo_b_s hf
              refine zr_gI rfl rfl (by decide) rfl e32 ?_
              obtain ⟨h33, e34, hf⟩ := zo_b_s hf
              refine zr_pI rfl rfl (by decide) rfl rfl e34 ?_
              refine zq_wg 2 (pc' := 112) (lv' := [some (.ref x12), some (.ref x13), some (va_rf x14), some (.int x15), some (.int x16)]) (st' := [.int (1 : Int32)]) (h' := h33) rfl ?_
              exact zr_ri rfl rfl rfl hf
            · have hf := zo_f hf b29
              refine zq_wg 2 (pc' := 105) (lv' := [some (.ref x12), some (.ref x13), some (va_rf x14), some (.int x15), some (.int x16)]) (st' := [.ref x13, .ref x12]) (h' := h18) rfl ?_
              obtain ⟨v35, e36, hf⟩ := zo_b_s hf
              refine zr_gI rfl rfl (by decide) rfl e36 ?_
              obtain ⟨h37, e38, hf⟩ := zo_b_s hf
              refine zr_pI rfl rfl (by decide) rfl rfl e38 ?_
              refine zq_wg 1 (pc' := 112) (lv' := [some (.ref x12), some (.ref x13), some (va_rf x14), some (.int x15), some (.int x16)]) (st' := [.int (1 : Int32)]) (h' := h37) rfl ?_
              exact zr_ri rfl rfl rfl hf
      by_cases b40 : zo_okb x9 = true
      case neg => rw [if_neg b40] at hf; cases hf
      have hf := zo_t hf b40
      refine zr_ane x9 (some 16) rfl rfl (zo_okb_ok b40) (zo_okb_ok rfl) (fun b39 => ?_) (fun b39 => ?_)
      · have hf := zo_t hf b39
        refine zq_wg 2 (pc' := 53) (lv' := [some (.ref x7), some (.ref x8), some (va_rf x9), some (.int x10), none]) (st' := [.int (13 : Int32)]) (h' := h11) rfl ?_
        exact kj53_17 x7 x8 x9 x10 (13 : Int32) h11 hf
      · have hf := zo_f hf b39
        refine zr_aldQn rfl rfl ?_
        refine zq_wg 1 (pc' := 42) (lv' := [some (.ref x7), some (.ref x8), some (va_rf x9), some (.int x10), none]) (st' := [.ref 17, va_rf x9]) (h' := h11) rfl ?_
        by_cases b42 : zo_okb x9 = true
        case neg => rw [if_neg b42] at hf; cases hf
        have hf := zo_t hf b42
        refine zr_ane x9 (some 17) rfl rfl (zo_okb_ok b42) (zo_okb_ok rfl) (fun b41 => ?_) (fun b41 => ?_)
        · have hf := zo_t hf b41
          refine zq_wg 2 (pc' := 53) (lv' := [some (.ref x7), some (.ref x8), some (va_rf x9), some (.int x10), none]) (st' := [.int (99 : Int32)]) (h' := h11) rfl ?_
          exact kj53_17 x7 x8 x9 x10 (99 : Int32) h11 hf
        · have hf := zo_f hf b41
          refine zq_wg 1 (pc' := 53) (lv' := [some (.ref x7), some (.ref x8), some (va_rf x9), some (.int x10), none]) (st' := [.int (999 : Int32)]) (h' := h11) rfl ?_
          exact kj53_17 x7 x8 x9 x10 (999 : Int32) h11 hf
    by_cases b44 : zo_okb a2 = true
    case neg => rw [if_neg b44] at hf; cases hf
    have hf := zo_t hf b44
    refine zr_ane a2 (some 16) rfl rfl (zo_okb_ok b44) (zo_okb_ok rfl) (fun b43 => ?_) (fun b43 => ?_)
    · have hf := zo_t hf b43
      refine zq_wg 2 (pc' := 25) (lv' := [some (.ref a0), some (.ref a1), some (va_rf a2), none, none]) (st' := [.int (1 : Int32)]) (h' := h) rfl ?_
      exact kj25_11 a0 a1 a2 (1 : Int32) h hf
    · have hf := zo_f hf b43
      refine zq_wg 1 (pc' := 25) (lv' := [some (.ref a0), some (.ref a1), some (va_rf a2), none, none]) (st' := [.int (0 : Int32)]) (h' := h) rfl ?_
      exact kj25_11 a0 a1 a2 (0 : Int32) h hf
set_option maxRecDepth 4000 in
def zx_Army_readLine (sc : zX) (a0 : Nat) (a1 : Nat) (h : zH) : Option (Int32 × zH) := zo_b (zo_gQ h 5 a1 3) (fun v1 => if zo_okb v1 = true then if v1 = (some 0) then (zo_v h a0 0 (zx_Army_readPost sc a0 a1 h) (fun v6 h5 => if v6 = 0 then (some ((0 : Int32), h5)) else (zo_v h5 a1 5 (zx_Tape_takeSign sc a1 (59 : Int32) h5) (fun v11 h10 => if v11 = 0 then (some ((0 : Int32), h10)) else (some ((1 : Int32), h10)))))) else (zo_b (zo_gQ h 5 a1 3) (fun v15 => if zo_okb v15 = true then if v15 = (some 1) then (zo_v h a0 0 (zx_Army_readMan sc a0 a1 h) (fun v20 h19 => if v20 = 0 then (some ((0 : Int32), h19)) else (zo_v h19 a1 5 (zx_Tape_takeSign sc a1 (59 : Int32) h19) (fun v25 h24 => if v25 = 0 then (some ((0 : Int32), h24)) else (some ((1 : Int32), h24)))))) else (zo_b (zo_gQ h 5 a1 3) (fun v29 => zo_v h a1 5 (zx_Tape_which sc a1 (1 : Int32) h) (fun v32 h31 => if v32 = (-1 : Int32) then (zo_v h31 a1 5 (zx_Tape_wrong sc a1 (1 : Int32) h31) (fun v37 h36 => zo_rb v37 h36)) else (zo_b (zo_gI h31 0 a0 18) (fun v40 => if ((v40 >>> (v32 &&& 31)) &&& (1 : Int32)) = (1 : Int32) then (zo_v h31 a1 5 (zx_Tape_wrong sc a1 (3 : Int32) h31) (fun v44 h43 => zo_rb v44 h43)) else (zo_b (zo_gI h31 0 a0 18) (fun v47 => zo_b (zo_pI h31 0 a0 18 (v47 ||| ((1 : Int32) <<< (v32 &&& 31)))) (fun h49 => zo_v h49 a1 5 (zx_Tape_step sc a1 h49) (fun w52 h51 => zo_l (fun (x55 : Nat) (x56 : Int32) (h57 : zH) => if x56 = 0 then (some ((0 : Int32), h57)) else (zo_v h57 x55 5 (zx_Tape_takeSign sc x55 (59 : Int32) h57) (fun v60 h59 => if v60 = 0 then (some ((0 : Int32), h59)) else (some ((1 : Int32), h59))))) (fun j145_57 => if (3 : Int32) ≤ v32 then (zo_v h51 a0 0 (zx_Army_readOnce sc a0 a1 v29 h51) (fun v66 h65 => j145_57 a1 v66 h65)) else (zo_b (zo_gR h51 0 a0 17) (fun v69 => zo_v h51 v69 1 (zx_Laws_readLaw sc v69 a1 v32 h51) (fun v72 h71 => j145_57 a1 v72 h71))))))))))))) else none)) else none)
set_option maxRecDepth 4000 in
theorem zx_Army_readLine_ok (sc : zX) (d : Nat) (hd : 69 ≤ d) {a0 : Nat} {a1 : Nat} {h : zH} {ro_ : Int32} {ho_ : zH} (hf : zx_Army_readLine sc a0 a1 h = some (ro_, ho_)) : zq_wm sc d 24 [.ref a0, .ref a1] h (some (.int ro_), ho_) := by
  unfold zx_Army_readLine at hf
  obtain ⟨d, rfl⟩ : ∃ d', d = d' + 1 := ⟨d - 1, by omega⟩
  have hd : 68 ≤ d := by omega
  show zq_wp sc (d + 1) 24 0 [some (.ref a0), some (.ref a1), none, none, none] [] h _
  refine zq_wg 1 (pc' := 1) (lv' := [some (.ref a0), some (.ref a1), none, none, none]) (st' := [.ref a1]) (h' := h) rfl ?_
  obtain ⟨v1, e2, hf⟩ := zo_b_s hf
  refine zr_gQ rfl rfl (by decide) rfl e2 ?_
  refine zq_wg 1 (pc' := 7) (lv' := [some (.ref a0), some (.ref a1), none, none, none]) (st' := [.ref 0, va_rf v1]) (h' := h) rfl ?_
  by_cases b4 : zo_okb v1 = true
  case neg => rw [if_neg b4] at hf; cases hf
  have hf := zo_t hf b4
  refine zr_ane v1 (some 0) rfl rfl (zo_okb_ok b4) (zo_okb_ok rfl) (fun b3 => ?_) (fun b3 => ?_)
  · have hf := zo_t hf b3
    refine zq_wg 2 (pc' := 12) (lv' := [some (.ref a0), some (.ref a1), none, none, none]) (st' := [.ref a1, .ref a0]) (h' := h) rfl ?_
    obtain ⟨e8, v6, h5, e7, hf⟩ := zo_v_s hf
    refine zr_cv zq_m25 [.ref a1] [] rfl rfl rfl rfl rfl (Nat.le_of_ble_eq_true rfl) (Nat.le_of_ble_eq_true rfl) e8 (zx_Army_readPost_ok sc d (by omega) e7) ?_
    refine zq_wg 0 (pc' := 15) (lv' := [some (.ref a0), some (.ref a1), none, none, none]) (st' := [.int v6]) (h' := h5) rfl ?_
    refine zr_if (v6 = 0) 31 18 (st' := []) rfl rfl (fun b9 => ?_) (fun b9 => ?_)
    · have hf := zo_t hf b9
      refine zq_wg 1 (pc' := 32) (lv' := [some (.ref a0), some (.ref a1), none, none, none]) (st' := [.int (0 : Int32)]) (h' := h5) rfl ?_
      exact zr_ri rfl rfl rfl hf
    · have hf := zo_f hf b9
      refine zq_wg 2 (pc' := 21) (lv' := [some (.ref a0), some (.ref a1), none, none, none]) (st' := [.int (59 : Int32), .ref a1]) (h' := h5) rfl ?_
      obtain ⟨e13, v11, h10, e12, hf⟩ := zo_v_s hf
      refine zr_cv zq_m37 [.int (59 : Int32)] [] rfl rfl rfl rfl rfl (Nat.le_of_ble_eq_true rfl) (Nat.le_of_ble_eq_true rfl) e13 (zx_Tape_takeSign_ok sc d (by omega) e12) ?_
      refine zq_wg 0 (pc' := 24) (lv' := [some (.ref a0), some (.ref a1), none, none, none]) (st' := [.int v11]) (h' := h10) rfl ?_
      refine zr_if (v11 = 0) 31 27 (st' := []) rfl rfl (fun b14 => ?_) (fun b14 => ?_)
      · have hf := zo_t hf b14
        refine zq_wg 1 (pc' := 32) (lv' := [some (.ref a0), some (.ref a1), none, none, none]) (st' := [.int (0 : Int32)]) (h' := h10) rfl ?_
        exact zr_ri rfl rfl rfl hf
      · have hf := zo_f hf b14
        refine zq_wg 2 (pc' := 32) (lv' := [some (.ref a0), some (.ref a1), none, none, none]) (st' := [.int (1 : Int32)]) (h' := h10) rfl ?_
        exact zr_ri rfl rfl rfl hf
  · have hf := zo_f hf b3
    refine zq_wg 1 (pc' := 34) (lv' := [some (.ref a0), some (.ref a1), none, none, none]) (st' := [.ref a1]) (h' := h) rfl ?_
    obtain ⟨v15, e16, hf⟩ := zo_b_s hf
    refine zr_gQ rfl rfl (by decide) rfl e16 ?_
    refine zq_wg 1 (pc' := 40) (lv' := [some (.ref a0), some (.ref a1), none, none, none]) (st' := [.ref 1, va_rf v15]) (h' := h) rfl ?_
    by_cases b18 : zo_okb v15 = true
    case neg => rw [if_neg b18] at hf; cases hf
    have hf := zo_t hf b18
    refine zr_ane v15 (some 1) rfl rfl (zo_okb_ok b18) (zo_okb_ok rfl) (fun b17 => ?_) (fun b17 => ?_)
    · have hf := zo_t hf b17
      refine zq_wg 2 (pc' := 45) (lv' := [some (.ref a0), some (.ref a1), none, none, none]) (st' := [.ref a1, .ref a0]) (h' := h) rfl ?_
      obtain ⟨e22, v20, h19, e21, hf⟩ := zo_v_s hf
      refine zr_cv zq_m39 [.ref a1] [] rfl rfl rfl rfl rfl (Nat.le_of_ble_eq_true rfl) (Nat.le_of_ble_eq_true rfl) e22 (zx_Army_readMan_ok sc d (by omega) e21) ?_
      refine zq_wg 0 (pc' := 48) (lv' := [some (.ref a0), some (.ref a1), none, none, none]) (st' := [.int v20]) (h' := h19) rfl ?_
      refine zr_if (v20 = 0) 64 51 (st' := []) rfl rfl (fun b23 => ?_) (fun b23 => ?_)
      · have hf := zo_t hf b23
        refine zq_wg 1 (pc' := 65) (lv' := [some (.ref a0), some (.ref a1), none, none, none]) (st' := [.int (0 : Int32)]) (h' := h19) rfl ?_
        exact zr_ri rfl rfl rfl hf
      · have hf := zo_f hf b23
        refine zq_wg 2 (pc' := 54) (lv' := [some (.ref a0), some (.ref a1), none, none, none]) (st' := [.int (59 : Int32), .ref a1]) (h' := h19) rfl ?_
        obtain ⟨e27, v25, h24, e26, hf⟩ := zo_v_s hf
        refine zr_cv zq_m37 [.int (59 : Int32)] [] rfl rfl rfl rfl rfl (Nat.le_of_ble_eq_true rfl) (Nat.le_of_ble_eq_true rfl) e27 (zx_Tape_takeSign_ok sc d (by omega) e26) ?_
        refine zq_wg 0 (pc' := 57) (lv' := [some (.ref a0), some (.ref a1), none, none, none]) (st' := [.int v25]) (h' := h24) rfl ?_
        refine zr_if (v25 = 0) 64 60 (st' := []) rfl rfl (fun b28 => ?_) (fun b28 => ?_)
        · have hf := zo_t hf b28
          refine zq_wg 1 (pc' := 65) (lv' := [some (.ref a0), some (.ref a1), none, none, none]) (st' := [.int (0 : Int32)]) (h' := h24) rfl ?_
          exact zr_ri rfl rfl rfl hf
        · have hf := zo_f hf b28
          refine zq_wg 2 (pc' := 65) (lv' := [some (.ref a0), some (.ref a1), none, none, none]) (st' := [.int (1 : Int32)]) (h' := h24) rfl ?_
          exact zr_ri rfl rfl rfl hf
    · have hf := zo_f hf b17
      refine zq_wg 1 (pc' := 67) (lv' := [some (.ref a0), some (.ref a1), none, none, none]) (st' := [.ref a1]) (h' := h) rfl ?_
      obtain ⟨v29, e30, hf⟩ := zo_b_s hf
      refine zr_gQ rfl rfl (by decide) rfl e30 ?_
      refine zr_astQn rfl rfl ?_
      refine zq_wg 0 (pc' := 71) (lv' := [some (.ref a0), some (.ref a1), some (va_rf v29), none, none]) (st' := []) (h' := h) rfl ?_
      refine zq_wg 2 (pc' := 73) (lv' := [some (.ref a0), some (.ref a1), some (va_rf v29), none, none]) (st' := [.int (1 : Int32), .ref a1]) (h' := h) rfl ?_
      obtain ⟨e34, v32, h31, e33, hf⟩ := zo_v_s hf
      refine zr_cv zq_m32 [.int (1 : Int32)] [] rfl rfl rfl rfl rfl (Nat.le_of_ble_eq_true rfl) (Nat.le_of_ble_eq_true rfl) e34 (zx_Tape_which_ok sc d (by omega) e33) ?_
      refine zq_wg 0 (pc' := 76) (lv' := [some (.ref a0), some (.ref a1), some (va_rf v29), none, none]) (st' := [.int v32]) (h' := h31) rfl ?_
      refine zr_istn [some (.ref a0), some (.ref a1), some (va_rf v29), some (.int v32), none] rfl (by cases v29 <;> rfl) ?_
      refine zq_wg 2 (pc' := 79) (lv' := [some (.ref a0), some (.ref a1), some (va_rf v29), some (.int v32), none]) (st' := [.int (-1 : Int32), .int v32]) (h' := h31) rfl ?_
      refine zr_if (v32 = (-1 : Int32)) 82 88 (st' := []) rfl rfl (fun b35 => ?_) (fun b35 => ?_)
      · have hf := zo_t hf b35
        refine zq_wg 2 (pc' := 84) (lv' := [some (.ref a0), some (.ref a1), some (va_rf v29), some (.int v32), none]) (st' := [.int (1 : Int32), .ref a1]) (h' := h31) rfl ?_
        obtain ⟨e39, v37, h36, e38, hf⟩ := zo_v_s hf
        refine zr_cv zq_m26 [.int (1 : Int32)] [] rfl rfl rfl rfl rfl (Nat.le_of_ble_eq_true rfl) (Nat.le_of_ble_eq_true rfl) e39 (zx_Tape_wrong_ok sc d (by omega) e38) ?_
        refine zq_wg 0 (pc' := 87) (lv' := [some (.ref a0), some (.ref a1), some (va_rf v29), some (.int v32), none]) (st' := [.int v37]) (h' := h36) rfl ?_
        exact zr_rb rfl rfl hf
      · have hf := zo_f hf b35
        refine zq_wg 1 (pc' := 89) (lv' := [some (.ref a0), some (.ref a1), some (va_rf v29), some (.int v32), none]) (st' := [.ref a0]) (h' := h31) rfl ?_
        obtain ⟨v40, e41, hf⟩ := zo_b_s hf
        refine zr_gI rfl rfl (by decide) rfl e41 ?_
        refine zq_wg 5 (pc' := 97) (lv' := [some (.ref a0), some (.ref a1), some (va_rf v29), some (.int v32), none]) (st' := [.int (1 : Int32), .int ((v40 >>> (v32 &&& 31)) &&& (1 : Int32))]) (h' := h31) rfl ?_
        refine zr_if (((v40 >>> (v32 &&& 31)) &&& (1 : Int32)) = (1 : Int32)) 100 106 (st' := []) rfl rfl (fun b42 => ?_) (fun b42 => ?_)
        · have hf := zo_t hf b42
          refine zq_wg 2 (pc' := 102) (lv' := [some (.ref a0), some (.ref a1), some (va_rf v29), some (.int v32), none]) (st' := [.int (3 : Int32), .ref a1]) (h' := h31) rfl ?_
          obtain ⟨e46, v44, h43, e45, hf⟩ := zo_v_s hf
          refine zr_cv zq_m26 [.int (3 : Int32)] [] rfl rfl rfl rfl rfl (Nat.le_of_ble_eq_true rfl) (Nat.le_of_ble_eq_true rfl) e46 (zx_Tape_wrong_ok sc d (by omega) e45) ?_
          refine zq_wg 0 (pc' := 105) (lv' := [some (.ref a0), some (.ref a1), some (va_rf v29), some (.int v32), none]) (st' := [.int v44]) (h' := h43) rfl ?_
          exact zr_rb rfl rfl hf
        · have hf := zo_f hf b42
          refine zq_wg 2 (pc' := 108) (lv' := [some (.ref a0), some (.ref a1), some (va_rf v29), some (.int v32), none]) (st' := [.ref a0, .ref a0]) (h' := h31) rfl ?_
          obtain ⟨v47, e48, hf⟩ := zo_b_s hf
          refine zr_gI rfl rfl (by decide) rfl e48 ?_
          refine zq_wg 4 (pc' := 115) (lv' := [some (.ref a0), some (.ref a1), some (va_rf v29), some (.int v32), none]) (st' := [.int (v47 ||| ((1 : Int32) <<< (v32 &&& 31))), .ref a0]) (h' := h31) rfl ?_
          obtain ⟨h49, e50, hf⟩ := zo_b_s hf
          refine zr_pI rfl rfl (by decide) rfl rfl e50 ?_
          refine zq_wg 1 (pc' := 119) (lv' := [some (.ref a0), some (.ref a1), some (va_rf v29), some (.int v32), none]) (st' := [.ref a1]) (h' := h49) rfl ?_
          obtain ⟨e54, w52, h51, e53, hf⟩ := zo_v_s hf
          refine zr_cv zq_m20 [] [] rfl rfl rfl rfl rfl (Nat.le_of_ble_eq_true rfl) (Nat.le_of_ble_eq_true rfl) e54 (zx_Tape_step_ok sc d (by omega) e53) ?_
          refine zq_wg 0 (pc' := 122) (lv' := [some (.ref a0), some (.ref a1), some (va_rf v29), some (.int v32), none]) (st' := []) (h' := h51) rfl ?_
          refine zq_wg 2 (pc' := 124) (lv' := [some (.ref a0), some (.ref a1), some (va_rf v29), some (.int v32), none]) (st' := [.int (3 : Int32), .int v32]) (h' := h51) rfl ?_
          obtain ⟨j145_57, hjj145_57, hf⟩ := zo_lj hf
          have kj145_57 : ∀ (x55 : Nat) (x56 : Int32) (h57 : zH), j145_57 x55 x56 h57 = some (ro_, ho_) → zq_wp sc (d + 1) 24 145 [none, some (.ref x55), none, none, none] [.int x56] h57 (some (.int ro_), ho_) := by
            intro x55 x56 h57 hf
            rw [hjj145_57] at hf
            refine zq_wg 2 (pc' := 149) (lv' := [none, some (.ref x55), none, none, some (.int x56)]) (st' := [.int x56]) (h' := h57) rfl ?_
            refine zr_if (x56 = 0) 165 152 (st' := []) rfl rfl (fun b58 => ?_) (fun b58 => ?_)
            · have hf := zo_t hf b58
              refine zq_wg 1 (pc' := 166) (lv' := [none, some (.ref x55), none, none, some (.int x56)]) (st' := [.int (0 : Int32)]) (h' := h57) rfl ?_
              exact zr_ri rfl rfl rfl hf
            · have hf := zo_f hf b58
              refine zq_wg 2 (pc' := 155) (lv' := [none, some (.ref x55), none, none, some (.int x56)]) (st' := [.int (59 : Int32), .ref x55]) (h' := h57) rfl ?_
              obtain ⟨e62, v60, h59, e61, hf⟩ := zo_v_s hf
              refine zr_cv zq_m37 [.int (59 : Int32)] [] rfl rfl rfl rfl rfl (Nat.le_of_ble_eq_true rfl) (Nat.le_of_ble_eq_true rfl) e62 (zx_Tape_takeSign_ok sc d (by omega) e61) ?_
              refine zq_wg 0 (pc' := 158) (lv' := [none, some (.ref x55), none, none, some (.int x56)]) (st' := [.int v60]) (h' := h59) rfl ?_
              refine zr_if (v60 = 0) 165 161 (st' := []) rfl rfl (fun b63 => ?_) (fun b63 => ?_)
              · have hf := zo_t hf b63
                refine zq_wg 1 (pc' := 166) (lv' := [none, some (.ref x55), none, none, some (.int x56)]) (st' := [.int (0 : Int32)]) (h' := h59) rfl ?_
                exact zr_ri rfl rfl rfl hf
              · have hf := zo_f hf b63
                refine zq_wg 2 (pc' := 166) (lv' := [none, some (.ref x55), none, none, some (.int x56)]) (st' := [.int (1 : Int32)]) (h' := h59) rfl ?_
                exact zr_ri rfl rfl rfl hf
          refine zr_if ((3 : Int32) ≤ v32) 139 127 (st' := []) rfl rfl (fun b64 => ?_) (fun b64 => ?_)
          · have hf := zo_t hf b64
            refine zq_wg 2 (pc' := 141) (lv' := [some (.ref a0), some (.ref a1), some (va_rf v29), some (.int v32), none]) (st' := [.ref a1, .ref a0]) (h' := h51) rfl ?_
            refine zr_aldQn rfl rfl ?_
            obtain ⟨e68, v66, h65, e67, hf⟩ := zo_v_s hf
            refine zr_cv zq_m47 [.ref a1, va_rf v29] [] rfl rfl rfl rfl rfl (Nat.le_of_ble_eq_true rfl) (by cases v29 <;> exact Nat.le_of_ble_eq_true rfl) e68 (zx_Army_readOnce_ok sc d (by omega) e67) ?_
            refine zq_wg 0 (pc' := 145) (lv' := [some (.ref a0), some (.ref a1), some (va_rf v29), some (.int v32), none]) (st' := [.int v66]) (h' := h65) rfl ?_
            refine zq_fg [none, some (.ref a1), none, none, none] (zq_lvle_n (zq_lvle_s (zq_lvle_n (zq_lvle_n (zq_lvle_s zq_lvle_nil))))) ?_
            exact kj145_57 a1 v66 h65 hf
          · have hf := zo_f hf b64
            refine zq_wg 1 (pc' := 128) (lv' := [some (.ref a0), some (.ref a1), some (va_rf v29), some (.int v32), none]) (st' := [.ref a0]) (h' := h51) rfl ?_
            obtain ⟨v69, e70, hf⟩ := zo_b_s hf
            refine zr_gR rfl rfl (by decide) rfl e70 ?_
            refine zq_wg 2 (pc' := 133) (lv' := [some (.ref a0), some (.ref a1), some (va_rf v29), some (.int v32), none]) (st' := [.int v32, .ref a1, .ref v69]) (h' := h51) rfl ?_
            obtain ⟨e74, v72, h71, e73, hf⟩ := zo_v_s hf
            refine zr_cv zq_m40 [.ref a1, .int v32] [] rfl rfl rfl rfl rfl (Nat.le_of_ble_eq_true rfl) (Nat.le_of_ble_eq_true rfl) e74 (zx_Laws_readLaw_ok sc d (by omega) e73) ?_
            refine zq_wg 0 (pc' := 136) (lv' := [some (.ref a0), some (.ref a1), some (va_rf v29), some (.int v32), none]) (st' := [.int v72]) (h' := h71) rfl ?_
            refine zq_wg 1 (pc' := 145) (lv' := [some (.ref a0), some (.ref a1), some (va_rf v29), some (.int v32), none]) (st' := [.int v72]) (h' := h71) rfl ?_
            refine zq_fg [none, some (.ref a1), none, none, none] (zq_lvle_n (zq_lvle_s (zq_lvle_n (zq_lvle_n (zq_lvle_s zq_lvle_nil))))) ?_
            exact kj145_57 a1 v72 h71 hf
set_option maxRecDepth 4000 in
def zx_Laws_isTold (sc : zX) (a0 : Nat) (a1 : Int32) (h : zH) : Option (Int32 × zH) := zo_b (zo_gR h 1 a0 2) (fun v1 => zo_c (zx_at sc v1 a1 h) (fun v4 h3 => zo_b (zo_gR h3 1 a0 1) (fun v6 => zo_c (zx_at sc v6 a1 h3) (fun v9 h8 => if v4 ≤ v9 then (some ((0 : Int32), h8)) else (some ((1 : Int32), h8))))))
set_option maxRecDepth 4000 in
theorem zx_Laws_isTold_ok (sc : zX) (d : Nat) (hd : 1 ≤ d) {a0 : Nat} {a1 : Int32} {h : zH} {ro_ : Int32} {ho_ : zH} (hf : zx_Laws_isTold sc a0 a1 h = some (ro_, ho_)) : zq_wm sc d 51 [.ref a0, .int a1] h (some (.int ro_), ho_) := by
  unfold zx_Laws_isTold at hf
  obtain ⟨d, rfl⟩ : ∃ d', d = d' + 1 := ⟨d - 1, by omega⟩
  have hd : 0 ≤ d := by omega
  show zq_wp sc (d + 1) 51 0 [some (.ref a0), some (.int a1)] [] h _
  refine zq_wg 1 (pc' := 1) (lv' := [some (.ref a0), some (.int a1)]) (st' := [.ref a0]) (h' := h) rfl ?_
  obtain ⟨v1, e2, hf⟩ := zo_b_s hf
  refine zr_gR rfl rfl (by decide) rfl e2 ?_
  refine zq_wg 1 (pc' := 5) (lv' := [some (.ref a0), some (.int a1)]) (st' := [.int a1, .ref v1]) (h' := h) rfl ?_
  obtain ⟨v4, h3, e5, hf⟩ := zo_c_s hf
  refine zr_cs zq_m12 [.ref v1, .int a1] [] rfl rfl (by decide) rfl rfl rfl (Nat.le_of_ble_eq_true rfl) (Nat.le_of_ble_eq_true rfl) (zx_at_ok sc d (by omega) e5) ?_
  refine zq_wg 0 (pc' := 8) (lv' := [some (.ref a0), some (.int a1)]) (st' := [.int v4]) (h' := h3) rfl ?_
  refine zq_wg 1 (pc' := 9) (lv' := [some (.ref a0), some (.int a1)]) (st' := [.ref a0, .int v4]) (h' := h3) rfl ?_
  obtain ⟨v6, e7, hf⟩ := zo_b_s hf
  refine zr_gR rfl rfl (by decide) rfl e7 ?_
  refine zq_wg 1 (pc' := 13) (lv' := [some (.ref a0), some (.int a1)]) (st' := [.int a1, .ref v6, .int v4]) (h' := h3) rfl ?_
  obtain ⟨v9, h8, e10, hf⟩ := zo_c_s hf
  refine zr_cs zq_m12 [.ref v6, .int a1] [.int v4] rfl rfl (by decide) rfl rfl rfl (Nat.le_of_ble_eq_true rfl) (Nat.le_of_ble_eq_true rfl) (zx_at_ok sc d (by omega) e10) ?_
  refine zq_wg 0 (pc' := 16) (lv' := [some (.ref a0), some (.int a1)]) (st' := [.int v9, .int v4]) (h' := h8) rfl ?_
  refine zr_if (v4 ≤ v9) 23 19 (st' := []) rfl rfl (fun b11 => ?_) (fun b11 => ?_)
  · have hf := zo_t hf b11
    refine zq_wg 1 (pc' := 24) (lv' := [some (.ref a0), some (.int a1)]) (st' := [.int (0 : Int32)]) (h' := h8) rfl ?_
    exact zr_ri rfl rfl rfl hf
  · have hf := zo_f hf b11
    refine zq_wg 2 (pc' := 24) (lv' := [some (.ref a0), some (.int a1)]) (st' := [.int (1 : Int32)]) (h' := h8) rfl ?_
    exact zr_ri rfl rfl rfl hf
set_option maxRecDepth 4000 in
def zx_Laws_joined (sc : zX) (a0 : Int32) (a1 : Int32) (a2 : Int32) (h : zH) : Option (Int32 × zH) := if a0 = (-7 : Int32) then (if a1 = 0 then (some ((0 : Int32), h)) else (if a2 = 0 then (some ((0 : Int32), h)) else (some ((1 : Int32), h)))) else if a0 = (-6 : Int32) then (zo_l (fun  (h5 : zH) => some ((1 : Int32), h5)) (fun j100_5 => if a1 = 0 then (if a2 = 0 then (some ((0 : Int32), h)) else (j100_5  h)) else (j100_5  h))) else if a0 = (-5 : Int32) then (if a1 = a2 then (some ((1 : Int32), h)) else (some ((0 : Int32), h))) else if a0 = (-4 : Int32) then (if a2 ≤ a1 then (some ((0 : Int32), h)) else (some ((1 : Int32), h))) else if a0 = (-3 : Int32) then (some ((a1 * a2), h)) else if a0 = (-2 : Int32) then (some ((a1 - a2), h)) else if a0 = (-1 : Int32) then (some ((a1 + a2), h)) else (zo_l (fun  (h15 : zH) => some ((1 : Int32), h15)) (fun j100_15 => if a1 = 0 then (if a2 = 0 then (some ((0 : Int32), h)) else (j100_15  h)) else (j100_15  h)))
set_option maxRecDepth 4000 in
theorem zx_Laws_joined_ok (sc : zX) (d : Nat) (hd : 0 ≤ d) {a0 : Int32} {a1 : Int32} {a2 : Int32} {h : zH} {ro_ : Int32} {ho_ : zH} (hf : zx_Laws_joined sc a0 a1 a2 h = some (ro_, ho_)) : zq_wm sc d 54 [.int a0, .int a1, .int a2] h (some (.int ro_), ho_) := by
  unfold zx_Laws_joined at hf
  show zq_wp sc d 54 0 [some (.int a0), some (.int a1), some (.int a2)] [] h _
  refine zq_wg 1 (pc' := 1) (lv' := [some (.int a0), some (.int a1), some (.int a2)]) (st' := [.int a0]) (h' := h) rfl ?_
  by_cases b1 : a0 = (-7 : Int32)
  · have hf := zo_t hf b1
    refine zr_ts (t := 78) rfl (by rw [b1]; rfl) ?_
    refine zq_wg 1 (pc' := 79) (lv' := [some (.int a0), some (.int a1), some (.int a2)]) (st' := [.int a1]) (h' := h) rfl ?_
    refine zr_if (a1 = 0) 90 82 (st' := []) rfl rfl (fun b2 => ?_) (fun b2 => ?_)
    · have hf := zo_t hf b2
      refine zq_wg 1 (pc' := 91) (lv' := [some (.int a0), some (.int a1), some (.int a2)]) (st' := [.int (0 : Int32)]) (h' := h) rfl ?_
      exact zr_ri rfl rfl rfl hf
    · have hf := zo_f hf b2
      refine zq_wg 1 (pc' := 83) (lv' := [some (.int a0), some (.int a1), some (.int a2)]) (st' := [.int a2]) (h' := h) rfl ?_
      refine zr_if (a2 = 0) 90 86 (st' := []) rfl rfl (fun b3 => ?_) (fun b3 => ?_)
      · have hf := zo_t hf b3
        refine zq_wg 1 (pc' := 91) (lv' := [some (.int a0), some (.int a1), some (.int a2)]) (st' := [.int (0 : Int32)]) (h' := h) rfl ?_
        exact zr_ri rfl rfl rfl hf
      · have hf := zo_f hf b3
        refine zq_wg 2 (pc' := 91) (lv' := [some (.int a0), some (.int a1), some (.int a2)]) (st' := [.int (1 : Int32)]) (h' := h) rfl ?_
        exact zr_ri rfl rfl rfl hf
  have hf := zo_f hf b1
  by_cases b4 : a0 = (-6 : Int32)
  · have hf := zo_t hf b4
    refine zr_ts (t := 92) rfl (by rw [b4]; rfl) ?_
    refine zq_wg 1 (pc' := 93) (lv' := [some (.int a0), some (.int a1), some (.int a2)]) (st' := [.int a1]) (h' := h) rfl ?_
    obtain ⟨j100_5, hjj100_5, hf⟩ := zo_lj hf
    have kj100_5 : ∀  (h5 : zH), j100_5 h5 = some (ro_, ho_) → zq_wp sc d 54 100 [none, none, none] [] h5 (some (.int ro_), ho_) := by
      intro h5 hf
      rw [hjj100_5] at hf
      refine zq_wg 2 (pc' := 105) (lv' := [none, none, none]) (st' := [.int (1 : Int32)]) (h' := h5) rfl ?_
      exact zr_ri rfl rfl rfl hf
    refine zr_if (a1 = 0) 96 100 (st' := []) rfl rfl (fun b6 => ?_) (fun b6 => ?_)
    · have hf := zo_t hf b6
      refine zq_wg 1 (pc' := 97) (lv' := [some (.int a0), some (.int a1), some (.int a2)]) (st' := [.int a2]) (h' := h) rfl ?_
      refine zr_if (a2 = 0) 104 100 (st' := []) rfl rfl (fun b7 => ?_) (fun b7 => ?_)
      · have hf := zo_t hf b7
        refine zq_wg 1 (pc' := 105) (lv' := [some (.int a0), some (.int a1), some (.int a2)]) (st' := [.int (0 : Int32)]) (h' := h) rfl ?_
        exact zr_ri rfl rfl rfl hf
      · have hf := zo_f hf b7
        refine zq_fg [none, none, none] (zq_lvle_n (zq_lvle_n (zq_lvle_n zq_lvle_nil))) ?_
        exact kj100_5  h hf
    · have hf := zo_f hf b6
      refine zq_fg [none, none, none] (zq_lvle_n (zq_lvle_n (zq_lvle_n zq_lvle_nil))) ?_
      exact kj100_5  h hf
  have hf := zo_f hf b4
  by_cases b8 : a0 = (-5 : Int32)
  · have hf := zo_t hf b8
    refine zr_ts (t := 67) rfl (by rw [b8]; rfl) ?_
    refine zq_wg 2 (pc' := 69) (lv' := [some (.int a0), some (.int a1), some (.int a2)]) (st' := [.int a2, .int a1]) (h' := h) rfl ?_
    refine zr_if (a1 = a2) 72 76 (st' := []) rfl rfl (fun b9 => ?_) (fun b9 => ?_)
    · have hf := zo_t hf b9
      refine zq_wg 2 (pc' := 77) (lv' := [some (.int a0), some (.int a1), some (.int a2)]) (st' := [.int (1 : Int32)]) (h' := h) rfl ?_
      exact zr_ri rfl rfl rfl hf
    · have hf := zo_f hf b9
      refine zq_wg 1 (pc' := 77) (lv' := [some (.int a0), some (.int a1), some (.int a2)]) (st' := [.int (0 : Int32)]) (h' := h) rfl ?_
      exact zr_ri rfl rfl rfl hf
  have hf := zo_f hf b8
  by_cases b10 : a0 = (-4 : Int32)
  · have hf := zo_t hf b10
    refine zr_ts (t := 56) rfl (by rw [b10]; rfl) ?_
    refine zq_wg 2 (pc' := 58) (lv' := [some (.int a0), some (.int a1), some (.int a2)]) (st' := [.int a2, .int a1]) (h' := h) rfl ?_
    refine zr_if (a2 ≤ a1) 65 61 (st' := []) rfl rfl (fun b11 => ?_) (fun b11 => ?_)
    · have hf := zo_t hf b11
      refine zq_wg 1 (pc' := 66) (lv' := [some (.int a0), some (.int a1), some (.int a2)]) (st' := [.int (0 : Int32)]) (h' := h) rfl ?_
      exact zr_ri rfl rfl rfl hf
    · have hf := zo_f hf b11
      refine zq_wg 2 (pc' := 66) (lv' := [some (.int a0), some (.int a1), some (.int a2)]) (st' := [.int (1 : Int32)]) (h' := h) rfl ?_
      exact zr_ri rfl rfl rfl hf
  have hf := zo_f hf b10
  by_cases b12 : a0 = (-3 : Int32)
  · have hf := zo_t hf b12
    refine zr_ts (t := 52) rfl (by rw [b12]; rfl) ?_
    refine zq_wg 3 (pc' := 55) (lv' := [some (.int a0), some (.int a1), some (.int a2)]) (st' := [.int (a1 * a2)]) (h' := h) rfl ?_
    exact zr_ri rfl rfl rfl hf
  have hf := zo_f hf b12
  by_cases b13 : a0 = (-2 : Int32)
  · have hf := zo_t hf b13
    refine zr_ts (t := 48) rfl (by rw [b13]; rfl) ?_
    refine zq_wg 3 (pc' := 51) (lv' := [some (.int a0), some (.int a1), some (.int a2)]) (st' := [.int (a1 - a2)]) (h' := h) rfl ?_
    exact zr_ri rfl rfl rfl hf
  have hf := zo_f hf b13
  by_cases b14 : a0 = (-1 : Int32)
  · have hf := zo_t hf b14
    refine zr_ts (t := 44) rfl (by rw [b14]; rfl) ?_
    refine zq_wg 3 (pc' := 47) (lv' := [some (.int a0), some (.int a1), some (.int a2)]) (st' := [.int (a1 + a2)]) (h' := h) rfl ?_
    exact zr_ri rfl rfl rfl hf
  have hf := zo_f hf b14
  refine zr_ts (t := 92) rfl (by unfold zo_ts; rw [if_pos (by have eb1 := zo_ne b1 (z := -7) (by decide); have eb4 := zo_ne b4 (z := -6) (by decide); have eb8 := zo_ne b8 (z := -5) (by decide); have eb10 := zo_ne b10 (z := -4) (by decide); have eb12 := zo_ne b12 (z := -3) (by decide); have eb13 := zo_ne b13 (z := -2) (by decide); have eb14 := zo_ne b14 (z := -1) (by decide); omega)]; rfl) ?_
  refine zq_wg 1 (pc' := 93) (lv' := [some (.int a0), some (.int a1), some (.int a2)]) (st' := [.int a1]) (h' := h) rfl ?_
  obtain ⟨j100_15, hjj100_15, hf⟩ := zo_lj hf
  have kj100_15 : ∀  (h15 : zH), j100_15 h15 = some (ro_, ho_) → zq_wp sc d 54 100 [none, none, none] [] h15 (some (.int ro_), ho_) := by
    intro h15 hf
    rw [hjj100_15] at hf
    refine zq_wg 2 (pc' := 105) (lv' := [none, none, none]) (st' := [.int (1 : Int32)]) (h' := h15) rfl ?_
    exact zr_ri rfl rfl rfl hf
  refine zr_if (a1 = 0) 96 100 (st' := []) rfl rfl (fun b16 => ?_) (fun b16 => ?_)
  · have hf := zo_t hf b16
    refine zq_wg 1 (pc' := 97) (lv' := [some (.int a0), some (.int a1), some (.int a2)]) (st' := [.int a2]) (h' := h) rfl ?_
    refine zr_if (a2 = 0) 104 100 (st' := []) rfl rfl (fun b17 => ?_) (fun b17 => ?_)
    · have hf := zo_t hf b17
      refine zq_wg 1 (pc' := 105) (lv' := [some (.int a0), some (.int a1), some (.int a2)]) (st' := [.int (0 : Int32)]) (h' := h) rfl ?_
      exact zr_ri rfl rfl rfl hf
    · have hf := zo_f hf b17
      refine zq_fg [none, none, none] (zq_lvle_n (zq_lvle_n (zq_lvle_n zq_lvle_nil))) ?_
      exact kj100_15  h hf
  · have hf := zo_f hf b16
    refine zq_fg [none, none, none] (zq_lvle_n (zq_lvle_n (zq_lvle_n zq_lvle_nil))) ?_
    exact kj100_15  h hf
set_option maxRecDepth 4000 in
def zx_Laws_value_l51 (sc : zX) : Nat → Nat → Int32 → Int32 → Int32 → zH → (Nat → zH → Option (Int32 × zH)) → Option (Int32 × zH)
  | 0, _, _, _, _, _, _ => none
  | n + 1, y26, y27, y28, y29, h30, k203 => zo_b (zo_gR h30 1 y26 2) (fun v31 => zo_c (zx_at sc v31 y27 h30) (fun v34 h33 => if v34 ≤ y29 then (k203 y26 h33) else (zo_b (zo_gR h33 1 y26 0) (fun v37 => zo_c (zx_at sc v37 y29 h33) (fun v40 h39 => zo_l (fun (x42 : Nat) (x43 : Int32) (x44 : Int32) (x45 : Int32) (h46 : zH) => zx_Laws_value_l51 sc n x42 x43 x44 (x45 + (1 : Int32)) h46 k203) (fun j197_46 => zo_l (fun (x47 : Nat) (x48 : Int32) (x49 : Int32) (x50 : Int32) (x51 : Int32) (h52 : zH) => zo_b (zo_gR h52 1 x47 3) (fun v53 => zo_l (fun (x55 : Nat) (x56 : Int32) (x57 : Int32) (x58 : Int32) (x59 : Nat) (x60 : Int32) (x61 : Int32) (h62 : zH) => zo_c (zx_put sc x59 x60 x61 h62) (fun w64 h63 => j197_46 x55 x56 x57 x58 h63)) (fun j118_62 => if x51 < 0 then (zo_b (zo_gR h52 1 x47 4) (fun v67 => zo_c (zx_at sc v67 ((-16 : Int32) - x51) h52) (fun v70 h69 => j118_62 x47 x48 (x49 + (1 : Int32)) x50 v53 (x49 + (1 : Int32)) v70 h69))) else (j118_62 x47 x48 (x49 + (1 : Int32)) x50 v53 (x49 + (1 : Int32)) x51 h52)))) (fun j87_52 => if 0 ≤ v40 then (j87_52 y26 y27 y28 y29 v40 h39) else (if (-16 : Int32) < v40 then (if v40 = (-6 : Int32) then (zo_b (zo_gR h39 1 y26 3) (fun v75 => zo_b (zo_gR h39 1 y26 3) (fun v77 => zo_c (zx_at sc v77 y28 h39) (fun v80 h79 => zo_l (if v80 = 0 then (1 : Int32) else (0 : Int32)) (fun (x82 : Int32) => zo_c (zx_put sc v75 y28 x82 h79) (fun w84 h83 => j197_46 y26 y27 y28 y29 h83)))))) else (zo_b (zo_gR h39 1 y26 3) (fun v87 => zo_b (zo_gR h39 1 y26 3) (fun v89 => zo_c (zx_at sc v89 (y28 + (-1 : Int32)) h39) (fun v92 h91 => zo_b (zo_gR h91 1 y26 3) (fun v94 => zo_c (zx_at sc v94 ((y28 + (-1 : Int32)) + (1 : Int32)) h91) (fun v97 h96 => zo_c (zx_Laws_joined sc v40 v92 v97 h96) (fun v100 h99 => zo_c (zx_put sc v87 (y28 + (-1 : Int32)) v100 h99) (fun w103 h102 => j197_46 y26 y27 (y28 + (-1 : Int32)) y29 h102))))))))) else (j87_52 y26 y27 y28 y29 v40 h39)))))))))
set_option maxRecDepth 4000 in
def zx_Laws_value (sc : zX) (a0 : Nat) (a1 : Int32) (a2 : Int32) (a3 : Int32) (a4 : Int32) (a5 : Int32) (h : zH) : Option (Int32 × zH) := zo_b (zo_gR h 1 a0 4) (fun v1 => zo_c (zx_put sc v1 (0 : Int32) a2 h) (fun w4 h3 => zo_b (zo_gR h3 1 a0 4) (fun v6 => zo_c (zx_put sc v6 (1 : Int32) a3 h3) (fun w9 h8 => zo_b (zo_gR h8 1 a0 4) (fun v11 => zo_c (zx_put sc v11 (2 : Int32) a4 h8) (fun w14 h13 => zo_b (zo_gR h13 1 a0 4) (fun v16 => zo_c (zx_put sc v16 (3 : Int32) a5 h13) (fun w19 h18 => zo_b (zo_gR h18 1 a0 1) (fun v21 => zo_c (zx_at sc v21 a1 h18) (fun v24 h23 => zx_Laws_value_l51 sc zo_F a0 a1 (-1 : Int32) v24 h23 (fun (x105 : Nat) (h106 : zH) => zo_b (zo_gR h106 1 x105 3) (fun v107 => zo_c (zx_at sc v107 (0 : Int32) h106) (fun v110 h109 => some (v110, h109))))))))))))))
set_option maxRecDepth 4000 in
theorem zx_Laws_value_l51_ok (sc : zX) (d : Nat) (hd : 0 ≤ d) : ∀ (n : Nat) (y26 : Nat) (y27 : Int32) (y28 : Int32) (y29 : Int32) (h30 : zH) (k203 : Nat → zH → Option (Int32 × zH)) (ro_ : Int32) (ho_ : zH), (∀ (z0 : Nat) (hz : zH), k203 z0 hz = some (ro_, ho_) → zq_wp sc (d + 1) 53 203 [some (.ref z0), none, none, none, none, none, none, none, none] [] hz (some (.int ro_), ho_)) → zx_Laws_value_l51 sc n y26 y27 y28 y29 h30 k203 = some (ro_, ho_) → zq_wp sc (d + 1) 53 51 [some (.ref y26), some (.int y27), none, none, none, none, some (.int y28), some (.int y29), none] [] h30 (some (.int ro_), ho_) := by
  intro n
  induction n with
  | zero => intro y26 y27 y28 y29 h30 k203 ro_ ho_ hk203 hf; cases hf
  | succ n ih =>
    intro y26 y27 y28 y29 h30 k203 ro_ ho_ hk203 hf
    refine zq_wg 2 (pc' := 54) (lv' := [some (.ref y26), some (.int y27), none, none, none, none, some (.int y28), some (.int y29), none]) (st' := [.ref y26, .int y29]) (h' := h30) rfl ?_
    obtain ⟨v31, e32, hf⟩ := zo_b_s hf
    refine zr_gR rfl rfl (by decide) rfl e32 ?_
    refine zq_wg 1 (pc' := 58) (lv' := [some (.ref y26), some (.int y27), none, none, none, none, some (.int y28), some (.int y29), none]) (st' := [.int y27, .ref v31, .int y29]) (h' := h30) rfl ?_
    obtain ⟨v34, h33, e35, hf⟩ := zo_c_s hf
    refine zr_cs zq_m12 [.ref v31, .int y27] [.int y29] rfl rfl (by decide) rfl rfl rfl (Nat.le_of_ble_eq_true rfl) (Nat.le_of_ble_eq_true rfl) (zx_at_ok sc d (by omega) e35) ?_
    refine zq_wg 0 (pc' := 61) (lv' := [some (.ref y26), some (.int y27), none, none, none, none, some (.int y28), some (.int y29), none]) (st' := [.int v34, .int y29]) (h' := h33) rfl ?_
    refine zr_if (v34 ≤ y29) 203 64 (st' := []) rfl rfl (fun b36 => ?_) (fun b36 => ?_)
    · have hf := zo_t hf b36
      refine zq_fg [some (.ref y26), none, none, none, none, none, none, none, none] (zq_lvle_s (zq_lvle_n (zq_lvle_s (zq_lvle_s (zq_lvle_s (zq_lvle_s (zq_lvle_n (zq_lvle_n (zq_lvle_s zq_lvle_nil))))))))) ?_
      exact hk203 y26 h33 hf
    · have hf := zo_f hf b36
      refine zq_wg 1 (pc' := 65) (lv' := [some (.ref y26), some (.int y27), none, none, none, none, some (.int y28), some (.int y29), none]) (st' := [.ref y26]) (h' := h33) rfl ?_
      obtain ⟨v37, e38, hf⟩ := zo_b_s hf
      refine zr_gR rfl rfl (by decide) rfl e38 ?_
      refine zq_wg 1 (pc' := 70) (lv' := [some (.ref y26), some (.int y27), none, none, none, none, some (.int y28), some (.int y29), none]) (st' := [.int y29, .ref v37]) (h' := h33) rfl ?_
      obtain ⟨v40, h39, e41, hf⟩ := zo_c_s hf
      refine zr_cs zq_m12 [.ref v37, .int y29] [] rfl rfl (by decide) rfl rfl rfl (Nat.le_of_ble_eq_true rfl) (Nat.le_of_ble_eq_true rfl) (zx_at_ok sc d (by omega) e41) ?_
      refine zq_wg 0 (pc' := 73) (lv' := [some (.ref y26), some (.int y27), none, none, none, none, some (.int y28), some (.int y29), none]) (st' := [.int v40]) (h' := h39) rfl ?_
      refine zq_wg 2 (pc' := 77) (lv' := [some (.ref y26), some (.int y27), none, none, none, none, some (.int y28), some (.int y29), some (.int v40)]) (st' := [.int v40]) (h' := h39) rfl ?_
      obtain ⟨j197_46, hjj197_46, hf⟩ := zo_lj hf
      have kj197_46 : ∀ (x42 : Nat) (x43 : Int32) (x44 : Int32) (x45 : Int32) (h46 : zH), j197_46 x42 x43 x44 x45 h46 = some (ro_, ho_) → zq_wp sc (d + 1) 53 197 [some (.ref x42), some (.int x43), none, none, none, none, some (.int x44), some (.int x45), none] [] h46 (some (.int ro_), ho_) := by
        intro x42 x43 x44 x45 h46 hf
        rw [hjj197_46] at hf
        refine zq_wg 2 (pc' := 51) (lv' := [some (.ref x42), some (.int x43), none, none, none, none, some (.int x44), some (.int (x45 + (1 : Int32))), none]) (st' := []) (h' := h46) rfl ?_
        exact ih x42 x43 x44 (x45 + (1 : Int32)) h46 _ _ _ hk203 hf
      obtain ⟨j87_52, hjj87_52, hf⟩ := zo_lj hf
      have kj87_52 : ∀ (x47 : Nat) (x48 : Int32) (x49 : Int32) (x50 : Int32) (x51 : Int32) (h52 : zH), j87_52 x47 x48 x49 x50 x51 h52 = some (ro_, ho_) → zq_wp sc (d + 1) 53 87 [some (.ref x47), some (.int x48), none, none, none, none, some (.int x49), some (.int x50), some (.int x51)] [] h52 (some (.int ro_), ho_) := by
        intro x47 x48 x49 x50 x51 h52 hf
        rw [hjj87_52] at hf
        refine zq_wg 2 (pc' := 91) (lv' := [some (.ref x47), some (.int x48), none, none, none, none, some (.int (x49 + (1 : Int32))), some (.int x50), some (.int x51)]) (st' := [.ref x47]) (h' := h52) rfl ?_
        obtain ⟨v53, e54, hf⟩ := zo_b_s hf
        refine zr_gR rfl rfl (by decide) rfl e54 ?_
        refine zq_wg 2 (pc' := 98) (lv' := [some (.ref x47), some (.int x48), none, none, none, none, some (.int (x49 + (1 : Int32))), some (.int x50), some (.int x51)]) (st' := [.int x51, .int (x49 + (1 : Int32)), .ref v53]) (h' := h52) rfl ?_
        obtain ⟨j118_62, hjj118_62, hf⟩ := zo_lj hf
        have kj118_62 : ∀ (x55 : Nat) (x56 : Int32) (x57 : Int32) (x58 : Int32) (x59 : Nat) (x60 : Int32) (x61 : Int32) (h62 : zH), j118_62 x55 x56 x57 x58 x59 x60 x61 h62 = some (ro_, ho_) → zq_wp sc (d + 1) 53 118 [some (.ref x55), some (.int x56), none, none, none, none, some (.int x57), some (.int x58), none] [.int x61, .int x60, .ref x59] h62 (some (.int ro_), ho_) := by
          intro x55 x56 x57 x58 x59 x60 x61 h62 hf
          rw [hjj118_62] at hf
          obtain ⟨w64, h63, e65, hf⟩ := zo_c_s hf
          refine zr_cs zq_m11 [.ref x59, .int x60, .int x61] [] rfl rfl (by decide) rfl rfl rfl (Nat.le_of_ble_eq_true rfl) (Nat.le_of_ble_eq_true rfl) (zx_put_ok sc d (by omega) e65) ?_
          refine zq_wg 0 (pc' := 121) (lv' := [some (.ref x55), some (.int x56), none, none, none, none, some (.int x57), some (.int x58), none]) (st' := []) (h' := h63) rfl ?_
          refine zq_wg 1 (pc' := 197) (lv' := [some (.ref x55), some (.int x56), none, none, none, none, some (.int x57), some (.int x58), none]) (st' := []) (h' := h63) rfl ?_
          exact kj197_46 x55 x56 x57 x58 h63 hf
        refine zr_if (x51 < 0) 106 101 (st' := [.int (x49 + (1 : Int32)), .ref v53]) rfl rfl (fun b66 => ?_) (fun b66 => ?_)
        · have hf := zo_t hf b66
          refine zq_wg 1 (pc' := 107) (lv' := [some (.ref x47), some (.int x48), none, none, none, none, some (.int (x49 + (1 : Int32))), some (.int x50), some (.int x51)]) (st' := [.ref x47, .int (x49 + (1 : Int32)), .ref v53]) (h' := h52) rfl ?_
          obtain ⟨v67, e68, hf⟩ := zo_b_s hf
          refine zr_gR rfl rfl (by decide) rfl e68 ?_
          refine zq_wg 3 (pc' := 115) (lv' := [some (.ref x47), some (.int x48), none, none, none, none, some (.int (x49 + (1 : Int32))), some (.int x50), some (.int x51)]) (st' := [.int ((-16 : Int32) - x51), .ref v67, .int (x49 + (1 : Int32)), .ref v53]) (h' := h52) rfl ?_
          obtain ⟨v70, h69, e71, hf⟩ := zo_c_s hf
          refine zr_cs zq_m12 [.ref v67, .int ((-16 : Int32) - x51)] [.int (x49 + (1 : Int32)), .ref v53] rfl rfl (by decide) rfl rfl rfl (Nat.le_of_ble_eq_true rfl) (Nat.le_of_ble_eq_true rfl) (zx_at_ok sc d (by omega) e71) ?_
          refine zq_wg 0 (pc' := 118) (lv' := [some (.ref x47), some (.int x48), none, none, none, none, some (.int (x49 + (1 : Int32))), some (.int x50), some (.int x51)]) (st' := [.int v70, .int (x49 + (1 : Int32)), .ref v53]) (h' := h69) rfl ?_
          refine zq_fg [some (.ref x47), some (.int x48), none, none, none, none, some (.int (x49 + (1 : Int32))), some (.int x50), none] (zq_lvle_s (zq_lvle_s (zq_lvle_s (zq_lvle_s (zq_lvle_s (zq_lvle_s (zq_lvle_s (zq_lvle_s (zq_lvle_n zq_lvle_nil))))))))) ?_
          exact kj118_62 x47 x48 (x49 + (1 : Int32)) x50 v53 (x49 + (1 : Int32)) v70 h69 hf
        · have hf := zo_f hf b66
          refine zq_wg 2 (pc' := 118) (lv' := [some (.ref x47), some (.int x48), none, none, none, none, some (.int (x49 + (1 : Int32))), some (.int x50), some (.int x51)]) (st' := [.int x51, .int (x49 + (1 : Int32)), .ref v53]) (h' := h52) rfl ?_
          refine zq_fg [some (.ref x47), some (.int x48), none, none, none, none, some (.int (x49 + (1 : Int32))), some (.int x50), none] (zq_lvle_s (zq_lvle_s (zq_lvle_s (zq_lvle_s (zq_lvle_s (zq_lvle_s (zq_lvle_s (zq_lvle_s (zq_lvle_n zq_lvle_nil))))))))) ?_
          exact kj118_62 x47 x48 (x49 + (1 : Int32)) x50 v53 (x49 + (1 : Int32)) x51 h52 hf
      refine zr_if (0 ≤ v40) 87 80 (st' := []) rfl rfl (fun b72 => ?_) (fun b72 => ?_)
      · have hf := zo_t hf b72
        exact kj87_52 y26 y27 y28 y29 v40 h39 hf
      · have hf := zo_f hf b72
        refine zq_wg 2 (pc' := 84) (lv' := [some (.ref y26), some (.int y27), none, none, none, none, some (.int y28), some (.int y29), some (.int v40)]) (st' := [.int (-16 : Int32), .int v40]) (h' := h39) rfl ?_
        refine zr_if ((-16 : Int32) < v40) 124 87 (st' := []) rfl rfl (fun b73 => ?_) (fun b73 => ?_)
        · have hf := zo_t hf b73
          refine zq_wg 2 (pc' := 128) (lv' := [some (.ref y26), some (.int y27), none, none, none, none, some (.int y28), some (.int y29), some (.int v40)]) (st' := [.int (-6 : Int32), .int v40]) (h' := h39) rfl ?_
          refine zr_if (v40 = (-6 : Int32)) 131 160 (st' := []) rfl rfl (fun b74 => ?_) (fun b74 => ?_)
          · have hf := zo_t hf b74
            refine zq_wg 1 (pc' := 132) (lv' := [some (.ref y26), some (.int y27), none, none, none, none, some (.int y28), some (.int y29), some (.int v40)]) (st' := [.ref y26]) (h' := h39) rfl ?_
            obtain ⟨v75, e76, hf⟩ := zo_b_s hf
            refine zr_gR rfl rfl (by decide) rfl e76 ?_
            refine zq_wg 2 (pc' := 138) (lv' := [some (.ref y26), some (.int y27), none, none, none, none, some (.int y28), some (.int y29), some (.int v40)]) (st' := [.ref y26, .int y28, .ref v75]) (h' := h39) rfl ?_
            obtain ⟨v77, e78, hf⟩ := zo_b_s hf
            refine zr_gR rfl rfl (by decide) rfl e78 ?_
            refine zq_wg 1 (pc' := 143) (lv' := [some (.ref y26), some (.int y27), none, none, none, none, some (.int y28), some (.int y29), some (.int v40)]) (st' := [.int y28, .ref v77, .int y28, .ref v75]) (h' := h39) rfl ?_
            obtain ⟨v80, h79, e81, hf⟩ := zo_c_s hf
            refine zr_cs zq_m12 [.ref v77, .int y28] [.int y28, .ref v75] rfl rfl (by decide) rfl rfl rfl (Nat.le_of_ble_eq_true rfl) (Nat.le_of_ble_eq_true rfl) (zx_at_ok sc d (by omega) e81) ?_
            refine zq_wg 0 (pc' := 146) (lv' := [some (.ref y26), some (.int y27), none, none, none, none, some (.int y28), some (.int y29), some (.int v40)]) (st' := [.int v80, .int y28, .ref v75]) (h' := h79) rfl ?_
            obtain ⟨g154_82, hg154_82, hf⟩ := zo_lx hf
            have kg154_82 : ∀ (x82 : Int32), g154_82 x82 = some (ro_, ho_) → zq_wp sc (d + 1) 53 154 [some (.ref y26), some (.int y27), none, none, none, none, some (.int y28), some (.int y29), some (.int v40)] [.int x82, .int y28, .ref v75] h79 (some (.int ro_), ho_) := by
              intro x82 hf
              rw [hg154_82] at hf
              obtain ⟨w84, h83, e85, hf⟩ := zo_c_s hf
              refine zr_cs zq_m11 [.ref v75, .int y28, .int x82] [] rfl rfl (by decide) rfl rfl rfl (Nat.le_of_ble_eq_true rfl) (Nat.le_of_ble_eq_true rfl) (zx_put_ok sc d (by omega) e85) ?_
              refine zq_wg 0 (pc' := 157) (lv' := [some (.ref y26), some (.int y27), none, none, none, none, some (.int y28), some (.int y29), some (.int v40)]) (st' := []) (h' := h83) rfl ?_
              refine zq_wg 1 (pc' := 197) (lv' := [some (.ref y26), some (.int y27), none, none, none, none, some (.int y28), some (.int y29), some (.int v40)]) (st' := []) (h' := h83) rfl ?_
              refine zq_fg [some (.ref y26), some (.int y27), none, none, none, none, some (.int y28), some (.int y29), none] (zq_lvle_s (zq_lvle_s (zq_lvle_s (zq_lvle_s (zq_lvle_s (zq_lvle_s (zq_lvle_s (zq_lvle_s (zq_lvle_n zq_lvle_nil))))))))) ?_
              exact kj197_46 y26 y27 y28 y29 h83 hf
            refine zr_if (v80 = 0) 149 153 (st' := [.int y28, .ref v75]) rfl rfl (fun b86 => ?_) (fun b86 => ?_)
            · have hf := zo_lt hf b86
              refine zq_wg 2 (pc' := 154) (lv' := [some (.ref y26), some (.int y27), none, none, none, none, some (.int y28), some (.int y29), some (.int v40)]) (st' := [.int (1 : Int32), .int y28, .ref v75]) (h' := h79) rfl ?_
              exact kg154_82 _ hf
            · have hf := zo_lf hf b86
              refine zq_wg 1 (pc' := 154) (lv' := [some (.ref y26), some (.int y27), none, none, none, none, some (.int y28), some (.int y29), some (.int v40)]) (st' := [.int (0 : Int32), .int y28, .ref v75]) (h' := h79) rfl ?_
              exact kg154_82 _ hf
          · have hf := zo_f hf b74
            refine zq_wg 2 (pc' := 164) (lv' := [some (.ref y26), some (.int y27), none, none, none, none, some (.int (y28 + (-1 : Int32))), some (.int y29), some (.int v40)]) (st' := [.ref y26]) (h' := h39) rfl ?_
            obtain ⟨v87, e88, hf⟩ := zo_b_s hf
            refine zr_gR rfl rfl (by decide) rfl e88 ?_
            refine zq_wg 3 (pc' := 172) (lv' := [some (.ref y26), some (.int y27), none, none, none, none, some (.int (y28 + (-1 : Int32))), some (.int y29), some (.int v40)]) (st' := [.ref y26, .int v40, .int (y28 + (-1 : Int32)), .ref v87]) (h' := h39) rfl ?_
            obtain ⟨v89, e90, hf⟩ := zo_b_s hf
            refine zr_gR rfl rfl (by decide) rfl e90 ?_
            refine zq_wg 1 (pc' := 177) (lv' := [some (.ref y26), some (.int y27), none, none, none, none, some (.int (y28 + (-1 : Int32))), some (.int y29), some (.int v40)]) (st' := [.int (y28 + (-1 : Int32)), .ref v89, .int v40, .int (y28 + (-1 : Int32)), .ref v87]) (h' := h39) rfl ?_
            obtain ⟨v92, h91, e93, hf⟩ := zo_c_s hf
            refine zr_cs zq_m12 [.ref v89, .int (y28 + (-1 : Int32))] [.int v40, .int (y28 + (-1 : Int32)), .ref v87] rfl rfl (by decide) rfl rfl rfl (Nat.le_of_ble_eq_true rfl) (Nat.le_of_ble_eq_true rfl) (zx_at_ok sc d (by omega) e93) ?_
            refine zq_wg 0 (pc' := 180) (lv' := [some (.ref y26), some (.int y27), none, none, none, none, some (.int (y28 + (-1 : Int32))), some (.int y29), some (.int v40)]) (st' := [.int v92, .int v40, .int (y28 + (-1 : Int32)), .ref v87]) (h' := h91) rfl ?_
            refine zq_wg 1 (pc' := 181) (lv' := [some (.ref y26), some (.int y27), none, none, none, none, some (.int (y28 + (-1 : Int32))), some (.int y29), some (.int v40)]) (st' := [.ref y26, .int v92, .int v40, .int (y28 + (-1 : Int32)), .ref v87]) (h' := h91) rfl ?_
            obtain ⟨v94, e95, hf⟩ := zo_b_s hf
            refine zr_gR rfl rfl (by decide) rfl e95 ?_
            refine zq_wg 3 (pc' := 188) (lv' := [some (.ref y26), some (.int y27), none, none, none, none, some (.int (y28 + (-1 : Int32))), some (.int y29), some (.int v40)]) (st' := [.int ((y28 + (-1 : Int32)) + (1 : Int32)), .ref v94, .int v92, .int v40, .int (y28 + (-1 : Int32)), .ref v87]) (h' := h91) rfl ?_
            obtain ⟨v97, h96, e98, hf⟩ := zo_c_s hf
            refine zr_cs zq_m12 [.ref v94, .int ((y28 + (-1 : Int32)) + (1 : Int32))] [.int v92, .int v40, .int (y28 + (-1 : Int32)), .ref v87] rfl rfl (by decide) rfl rfl rfl (Nat.le_of_ble_eq_true rfl) (Nat.le_of_ble_eq_true rfl) (zx_at_ok sc d (by omega) e98) ?_
            refine zq_wg 0 (pc' := 191) (lv' := [some (.ref y26), some (.int y27), none, none, none, none, some (.int (y28 + (-1 : Int32))), some (.int y29), some (.int v40)]) (st' := [.int v97, .int v92, .int v40, .int (y28 + (-1 : Int32)), .ref v87]) (h' := h96) rfl ?_
            obtain ⟨v100, h99, e101, hf⟩ := zo_c_s hf
            refine zr_cs zq_m54 [.int v40, .int v92, .int v97] [.int (y28 + (-1 : Int32)), .ref v87] rfl rfl (by decide) rfl rfl rfl (Nat.le_of_ble_eq_true rfl) (Nat.le_of_ble_eq_true rfl) (zx_Laws_joined_ok sc d (by omega) e101) ?_
            refine zq_wg 0 (pc' := 194) (lv' := [some (.ref y26), some (.int y27), none, none, none, none, some (.int (y28 + (-1 : Int32))), some (.int y29), some (.int v40)]) (st' := [.int v100, .int (y28 + (-1 : Int32)), .ref v87]) (h' := h99) rfl ?_
            obtain ⟨w103, h102, e104, hf⟩ := zo_c_s hf
            refine zr_cs zq_m11 [.ref v87, .int (y28 + (-1 : Int32)), .int v100] [] rfl rfl (by decide) rfl rfl rfl (Nat.le_of_ble_eq_true rfl) (Nat.le_of_ble_eq_true rfl) (zx_put_ok sc d (by omega) e104) ?_
            refine zq_wg 0 (pc' := 197) (lv' := [some (.ref y26), some (.int y27), none, none, none, none, some (.int (y28 + (-1 : Int32))), some (.int y29), some (.int v40)]) (st' := []) (h' := h102) rfl ?_
            refine zq_fg [some (.ref y26), some (.int y27), none, none, none, none, some (.int (y28 + (-1 : Int32))), some (.int y29), none] (zq_lvle_s (zq_lvle_s (zq_lvle_s (zq_lvle_s (zq_lvle_s (zq_lvle_s (zq_lvle_s (zq_lvle_s (zq_lvle_n zq_lvle_nil))))))))) ?_
            exact kj197_46 y26 y27 (y28 + (-1 : Int32)) y29 h102 hf
        · have hf := zo_f hf b73
          exact kj87_52 y26 y27 y28 y29 v40 h39 hf
set_option maxRecDepth 4000 in
theorem zx_Laws_value_ok (sc : zX) (d : Nat) (hd : 1 ≤ d) {a0 : Nat} {a1 : Int32} {a2 : Int32} {a3 : Int32} {a4 : Int32} {a5 : Int32} {h : zH} {ro_ : Int32} {ho_ : zH} (hf : zx_Laws_value sc a0 a1 a2 a3 a4 a5 h = some (ro_, ho_)) : zq_wm sc d 53 [.ref a0, .int a1, .int a2, .int a3, .int a4, .int a5] h (some (.int ro_), ho_) := by
  unfold zx_Laws_value at hf
  obtain ⟨d, rfl⟩ : ∃ d', d = d' + 1 := ⟨d - 1, by omega⟩
  have hd : 0 ≤ d := by omega
  show zq_wp sc (d + 1) 53 0 [some (.ref a0), some (.int a1), some (.int a2), some (.int a3), some (.int a4), some (.int a5), none, none, none] [] h _
  refine zq_wg 1 (pc' := 1) (lv' := [some (.ref a0), some (.int a1), some (.int a2), some (.int a3), some (.int a4), some (.int a5), none, none, none]) (st' := [.ref a0]) (h' := h) rfl ?_
  obtain ⟨v1, e2, hf⟩ := zo_b_s hf
  refine zr_gR rfl rfl (by decide) rfl e2 ?_
  refine zq_wg 2 (pc' := 6) (lv' := [some (.ref a0), some (.int a1), some (.int a2), some (.int a3), some (.int a4), some (.int a5), none, none, none]) (st' := [.int a2, .int (0 : Int32), .ref v1]) (h' := h) rfl ?_
  obtain ⟨w4, h3, e5, hf⟩ := zo_c_s hf
  refine zr_cs zq_m11 [.ref v1, .int (0 : Int32), .int a2] [] rfl rfl (by decide) rfl rfl rfl (Nat.le_of_ble_eq_true rfl) (Nat.le_of_ble_eq_true rfl) (zx_put_ok sc d (by omega) e5) ?_
  refine zq_wg 0 (pc' := 9) (lv' := [some (.ref a0), some (.int a1), some (.int a2), some (.int a3), some (.int a4), some (.int a5), none, none, none]) (st' := []) (h' := h3) rfl ?_
  refine zq_wg 1 (pc' := 10) (lv' := [some (.ref a0), some (.int a1), some (.int a2), some (.int a3), some (.int a4), some (.int a5), none, none, none]) (st' := [.ref a0]) (h' := h3) rfl ?_
  obtain ⟨v6, e7, hf⟩ := zo_b_s hf
  refine zr_gR rfl rfl (by decide) rfl e7 ?_
  refine zq_wg 2 (pc' := 15) (lv' := [some (.ref a0), some (.int a1), some (.int a2), some (.int a3), some (.int a4), some (.int a5), none, none, none]) (st' := [.int a3, .int (1 : Int32), .ref v6]) (h' := h3) rfl ?_
  obtain ⟨w9, h8, e10, hf⟩ := zo_c_s hf
  refine zr_cs zq_m11 [.ref v6, .int (1 : Int32), .int a3] [] rfl rfl (by decide) rfl rfl rfl (Nat.le_of_ble_eq_true rfl) (Nat.le_of_ble_eq_true rfl) (zx_put_ok sc d (by omega) e10) ?_
  refine zq_wg 0 (pc' := 18) (lv' := [some (.ref a0), some (.int a1), some (.int a2), some (.int a3), some (.int a4), some (.int a5), none, none, none]) (st' := []) (h' := h8) rfl ?_
  refine zq_wg 1 (pc' := 19) (lv' := [some (.ref a0), some (.int a1), some (.int a2), some (.int a3), some (.int a4), some (.int a5), none, none, none]) (st' := [.ref a0]) (h' := h8) rfl ?_
  obtain ⟨v11, e12, hf⟩ := zo_b_s hf
  refine zr_gR rfl rfl (by decide) rfl e12 ?_
  refine zq_wg 2 (pc' := 25) (lv' := [some (.ref a0), some (.int a1), some (.int a2), some (.int a3), some (.int a4), some (.int a5), none, none, none]) (st' := [.int a4, .int (2 : Int32), .ref v11]) (h' := h8) rfl ?_
  obtain ⟨w14, h13, e15, hf⟩ := zo_c_s hf
  refine zr_cs zq_m11 [.ref v11, .int (2 : Int32), .int a4] [] rfl rfl (by decide) rfl rfl rfl (Nat.le_of_ble_eq_true rfl) (Nat.le_of_ble_eq_true rfl) (zx_put_ok sc d (by omega) e15) ?_
  refine zq_wg 0 (pc' := 28) (lv' := [some (.ref a0), some (.int a1), some (.int a2), some (.int a3), some (.int a4), some (.int a5), none, none, none]) (st' := []) (h' := h13) rfl ?_
  refine zq_wg 1 (pc' := 29) (lv' := [some (.ref a0), some (.int a1), some (.int a2), some (.int a3), some (.int a4), some (.int a5), none, none, none]) (st' := [.ref a0]) (h' := h13) rfl ?_
  obtain ⟨v16, e17, hf⟩ := zo_b_s hf
  refine zr_gR rfl rfl (by decide) rfl e17 ?_
  refine zq_wg 2 (pc' := 35) (lv' := [some (.ref a0), some (.int a1), some (.int a2), some (.int a3), some (.int a4), some (.int a5), none, none, none]) (st' := [.int a5, .int (3 : Int32), .ref v16]) (h' := h13) rfl ?_
  obtain ⟨w19, h18, e20, hf⟩ := zo_c_s hf
  refine zr_cs zq_m11 [.ref v16, .int (3 : Int32), .int a5] [] rfl rfl (by decide) rfl rfl rfl (Nat.le_of_ble_eq_true rfl) (Nat.le_of_ble_eq_true rfl) (zx_put_ok sc d (by omega) e20) ?_
  refine zq_wg 0 (pc' := 38) (lv' := [some (.ref a0), some (.int a1), some (.int a2), some (.int a3), some (.int a4), some (.int a5), none, none, none]) (st' := []) (h' := h18) rfl ?_
  refine zq_wg 3 (pc' := 42) (lv' := [some (.ref a0), some (.int a1), some (.int a2), some (.int a3), some (.int a4), some (.int a5), some (.int (-1 : Int32)), none, none]) (st' := [.ref a0]) (h' := h18) rfl ?_
  obtain ⟨v21, e22, hf⟩ := zo_b_s hf
  refine zr_gR rfl rfl (by decide) rfl e22 ?_
  refine zq_wg 1 (pc' := 46) (lv' := [some (.ref a0), some (.int a1), some (.int a2), some (.int a3), some (.int a4), some (.int a5), some (.int (-1 : Int32)), none, none]) (st' := [.int a1, .ref v21]) (h' := h18) rfl ?_
  obtain ⟨v24, h23, e25, hf⟩ := zo_c_s hf
  refine zr_cs zq_m12 [.ref v21, .int a1] [] rfl rfl (by decide) rfl rfl rfl (Nat.le_of_ble_eq_true rfl) (Nat.le_of_ble_eq_true rfl) (zx_at_ok sc d (by omega) e25) ?_
  refine zq_wg 0 (pc' := 49) (lv' := [some (.ref a0), some (.int a1), some (.int a2), some (.int a3), some (.int a4), some (.int a5), some (.int (-1 : Int32)), none, none]) (st' := [.int v24]) (h' := h23) rfl ?_
  refine zq_wg 1 (pc' := 51) (lv' := [some (.ref a0), some (.int a1), some (.int a2), some (.int a3), some (.int a4), some (.int a5), some (.int (-1 : Int32)), some (.int v24), none]) (st' := []) (h' := h23) rfl ?_
  refine zq_fg [some (.ref a0), some (.int a1), none, none, none, none, some (.int (-1 : Int32)), some (.int v24), none] (zq_lvle_s (zq_lvle_s (zq_lvle_n (zq_lvle_n (zq_lvle_n (zq_lvle_n (zq_lvle_s (zq_lvle_s (zq_lvle_s zq_lvle_nil))))))))) ?_
  refine zx_Laws_value_l51_ok sc d hd zo_F a0 a1 (-1 : Int32) v24 h23 _ _ _ ?_ hf
  · intro x105 h106 hf
    refine zq_wg 1 (pc' := 204) (lv' := [some (.ref x105), none, none, none, none, none, none, none, none]) (st' := [.ref x105]) (h' := h106) rfl ?_
    obtain ⟨v107, e108, hf⟩ := zo_b_s hf
    refine zr_gR rfl rfl (by decide) rfl e108 ?_
    refine zq_wg 1 (pc' := 208) (lv' := [some (.ref x105), none, none, none, none, none, none, none, none]) (st' := [.int (0 : Int32), .ref v107]) (h' := h106) rfl ?_
    obtain ⟨v110, h109, e111, hf⟩ := zo_c_s hf
    refine zr_cs zq_m12 [.ref v107, .int (0 : Int32)] [] rfl rfl (by decide) rfl rfl rfl (Nat.le_of_ble_eq_true rfl) (Nat.le_of_ble_eq_true rfl) (zx_at_ok sc d (by omega) e111) ?_
    refine zq_wg 0 (pc' := 211) (lv' := [some (.ref x105), none, none, none, none, none, none, none, none]) (st' := [.int v110]) (h' := h109) rfl ?_
    exact zr_ri rfl rfl rfl hf
set_option maxRecDepth 4000 in
def zx_Army_lawOf (sc : zX) (a0 : Nat) (a1 : Int32) (a2 : Int32) (a3 : Int32) (h : zH) : Option (Int32 × zH) := zo_b (zo_gR h 0 a0 17) (fun v1 => zo_b (zo_gR h 0 a0 10) (fun v3 => zo_c (zx_at sc v3 a2 h) (fun v6 h5 => zo_b (zo_gR h5 0 a0 11) (fun v8 => zo_c (zx_at sc v8 a2 h5) (fun v11 h10 => zo_b (zo_gR h10 0 a0 8) (fun v13 => zo_c (zx_at sc v13 a3 h10) (fun v16 h15 => zo_b (zo_gR h15 0 a0 7) (fun v18 => zo_c (zx_at sc v18 a3 h15) (fun v21 h20 => zo_v h20 v1 1 (zx_Laws_value sc v1 a1 v6 v11 v16 v21 h20) (fun v24 h23 => some (v24, h23)))))))))))
set_option maxRecDepth 4000 in
theorem zx_Army_lawOf_ok (sc : zX) (d : Nat) (hd : 2 ≤ d) {a0 : Nat} {a1 : Int32} {a2 : Int32} {a3 : Int32} {h : zH} {ro_ : Int32} {ho_ : zH} (hf : zx_Army_lawOf sc a0 a1 a2 a3 h = some (ro_, ho_)) : zq_wm sc d 52 [.ref a0, .int a1, .int a2, .int a3] h (some (.int ro_), ho_) := by
  unfold zx_Army_lawOf at hf
  obtain ⟨d, rfl⟩ : ∃ d', d = d' + 1 := ⟨d - 1, by omega⟩
  have hd : 1 ≤ d := by omega
  show zq_wp sc (d + 1) 52 0 [some (.ref a0), some (.int a1), some (.int a2), some (.int a3)] [] h _
  refine zq_wg 1 (pc' := 1) (lv' := [some (.ref a0), some (.int a1), some (.int a2), some (.int a3)]) (st' := [.ref a0]) (h' := h) rfl ?_
  obtain ⟨v1, e2, hf⟩ := zo_b_s hf
  refine zr_gR rfl rfl (by decide) rfl e2 ?_
  refine zq_wg 2 (pc' := 6) (lv' := [some (.ref a0), some (.int a1), some (.int a2), some (.int a3)]) (st' := [.ref a0, .int a1, .ref v1]) (h' := h) rfl ?_
  obtain ⟨v3, e4, hf⟩ := zo_b_s hf
  refine zr_gR rfl rfl (by decide) rfl e4 ?_
  refine zq_wg 1 (pc' := 10) (lv' := [some (.ref a0), some (.int a1), some (.int a2), some (.int a3)]) (st' := [.int a2, .ref v3, .int a1, .ref v1]) (h' := h) rfl ?_
  obtain ⟨v6, h5, e7, hf⟩ := zo_c_s hf
  refine zr_cs zq_m12 [.ref v3, .int a2] [.int a1, .ref v1] rfl rfl (by decide) rfl rfl rfl (Nat.le_of_ble_eq_true rfl) (Nat.le_of_ble_eq_true rfl) (zx_at_ok sc d (by omega) e7) ?_
  refine zq_wg 0 (pc' := 13) (lv' := [some (.ref a0), some (.int a1), some (.int a2), some (.int a3)]) (st' := [.int v6, .int a1, .ref v1]) (h' := h5) rfl ?_
  refine zq_wg 1 (pc' := 14) (lv' := [some (.ref a0), some (.int a1), some (.int a2), some (.int a3)]) (st' := [.ref a0, .int v6, .int a1, .ref v1]) (h' := h5) rfl ?_
  obtain ⟨v8, e9, hf⟩ := zo_b_s hf
  refine zr_gR rfl rfl (by decide) rfl e9 ?_
  refine zq_wg 1 (pc' := 18) (lv' := [some (.ref a0), some (.int a1), some (.int a2), some (.int a3)]) (st' := [.int a2, .ref v8, .int v6, .int a1, .ref v1]) (h' := h5) rfl ?_
  obtain ⟨v11, h10, e12, hf⟩ := zo_c_s hf
  refine zr_cs zq_m12 [.ref v8, .int a2] [.int v6, .int a1, .ref v1] rfl rfl (by decide) rfl rfl rfl (Nat.le_of_ble_eq_true rfl) (Nat.le_of_ble_eq_true rfl) (zx_at_ok sc d (by omega) e12) ?_
  refine zq_wg 0 (pc' := 21) (lv' := [some (.ref a0), some (.int a1), some (.int a2), some (.int a3)]) (st' := [.int v11, .int v6, .int a1, .ref v1]) (h' := h10) rfl ?_
  refine zq_wg 1 (pc' := 22) (lv' := [some (.ref a0), some (.int a1), some (.int a2), some (.int a3)]) (st' := [.ref a0, .int v11, .int v6, .int a1, .ref v1]) (h' := h10) rfl ?_
  obtain ⟨v13, e14, hf⟩ := zo_b_s hf
  refine zr_gR rfl rfl (by decide) rfl e14 ?_
  refine zq_wg 1 (pc' := 26) (lv' := [some (.ref a0), some (.int a1), some (.int a2), some (.int a3)]) (st' := [.int a3, .ref v13, .int v11, .int v6, .int a1, .ref v1]) (h' := h10) rfl ?_
  obtain ⟨v16, h15, e17, hf⟩ := zo_c_s hf
  refine zr_cs zq_m12 [.ref v13, .int a3] [.int v11, .int v6, .int a1, .ref v1] rfl rfl (by decide) rfl rfl rfl (Nat.le_of_ble_eq_true rfl) (Nat.le_of_ble_eq_true rfl) (zx_at_ok sc d (by omega) e17) ?_
  refine zq_wg 0 (pc' := 29) (lv' := [some (.ref a0), some (.int a1), some (.int a2), some (.int a3)]) (st' := [.int v16, .int v11, .int v6, .int a1, .ref v1]) (h' := h15) rfl ?_
  refine zq_wg 1 (pc' := 30) (lv' := [some (.ref a0), some (.int a1), some (.int a2), some (.int a3)]) (st' := [.ref a0, .int v16, .int v11, .int v6, .int a1, .ref v1]) (h' := h15) rfl ?_
  obtain ⟨v18, e19, hf⟩ := zo_b_s hf
  refine zr_gR rfl rfl (by decide) rfl e19 ?_
  refine zq_wg 1 (pc' := 34) (lv' := [some (.ref a0), some (.int a1), some (.int a2), some (.int a3)]) (st' := [.int a3, .ref v18, .int v16, .int v11, .int v6, .int a1, .ref v1]) (h' := h15) rfl ?_
  obtain ⟨v21, h20, e22, hf⟩ := zo_c_s hf
  refine zr_cs zq_m12 [.ref v18, .int a3] [.int v16, .int v11, .int v6, .int a1, .ref v1] rfl rfl (by decide) rfl rfl rfl (Nat.le_of_ble_eq_true rfl) (Nat.le_of_ble_eq_true rfl) (zx_at_ok sc d (by omega) e22) ?_
  refine zq_wg 0 (pc' := 37) (lv' := [some (.ref a0), some (.int a1), some (.int a2), some (.int a3)]) (st' := [.int v21, .int v16, .int v11, .int v6, .int a1, .ref v1]) (h' := h20) rfl ?_
  obtain ⟨e26, v24, h23, e25, hf⟩ := zo_v_s hf
  refine zr_cv zq_m53 [.int a1, .int v6, .int v11, .int v16, .int v21] [] rfl rfl rfl rfl rfl (Nat.le_of_ble_eq_true rfl) (Nat.le_of_ble_eq_true rfl) e26 (zx_Laws_value_ok sc d (by omega) e25) ?_
  refine zq_wg 0 (pc' := 40) (lv' := [some (.ref a0), some (.int a1), some (.int a2), some (.int a3)]) (st' := [.int v24]) (h' := h23) rfl ?_
  exact zr_ri rfl rfl rfl hf
set_option maxRecDepth 4000 in
def zx_clamp (sc : zX) (a0 : Int32) (a1 : Int32) (a2 : Int32) (h : zH) : Option (Int32 × zH) := some ((if a1 < (if a0 < a2 then a0 else a2) then (if a0 < a2 then a0 else a2) else a1), h)
set_option maxRecDepth 4000 in
theorem zx_clamp_ok (sc : zX) (d : Nat) (hd : 1 ≤ d) {a0 : Int32} {a1 : Int32} {a2 : Int32} {h : zH} {ro_ : Int32} {ho_ : zH} (hf : zx_clamp sc a0 a1 a2 h = some (ro_, ho_)) : zq_wm sc d 55 [.int a0, .int a1, .int a2] h (some (.int ro_), ho_) := by
  unfold zx_clamp at hf
  obtain ⟨d, rfl⟩ : ∃ d', d = d' + 1 := ⟨d - 1, by omega⟩
  have hd : 0 ≤ d := by omega
  show zq_wp sc (d + 1) 55 0 [some (.int a0), some (.int a1), some (.int a2)] [] h _
  refine zq_wg 3 (pc' := 3) (lv' := [some (.int a0), some (.int a1), some (.int a2)]) (st' := [.int a0, .int a2, .int a1]) (h' := h) rfl ?_
  refine zr_min rfl rfl (Nat.le_of_ble_eq_true rfl) ?_
  refine zr_max rfl rfl (Nat.le_of_ble_eq_true rfl) ?_
  exact zr_ri rfl rfl rfl hf
set_option maxRecDepth 4000 in
def zx_Army_lawOfSkill (sc : zX) (a0 : Nat) (a1 : Int32) (a2 : Int32) (h : zH) : Option (Int32 × zH) := zo_b (zo_gR h 0 a0 17) (fun v1 => zo_v h v1 1 (zx_Laws_isTold sc v1 (0 : Int32) h) (fun v4 h3 => if v4 = 0 then (zo_b (zo_gR h3 0 a0 7) (fun v8 => zo_c (zx_at sc v8 a2 h3) (fun v11 h10 => if v11 = (1 : Int32) then (zo_b (zo_gR h10 0 a0 11) (fun v14 => zo_c (zx_at sc v14 a1 h10) (fun v17 h16 => some (v17, h16)))) else (zo_b (zo_gR h10 0 a0 10) (fun v19 => zo_c (zx_at sc v19 a1 h10) (fun v22 h21 => some (v22, h21))))))) else (zo_v h3 a0 0 (zx_Army_lawOf sc a0 (0 : Int32) a1 a2 h3) (fun v25 h24 => zo_c (zx_clamp sc v25 (0 : Int32) (99 : Int32) h24) (fun v29 h28 => some (v29, h28))))))
set_option maxRecDepth 4000 in
theorem zx_Army_lawOfSkill_ok (sc : zX) (d : Nat) (hd : 3 ≤ d) {a0 : Nat} {a1 : Int32} {a2 : Int32} {h : zH} {ro_ : Int32} {ho_ : zH} (hf : zx_Army_lawOfSkill sc a0 a1 a2 h = some (ro_, ho_)) : zq_wm sc d 50 [.ref a0, .int a1, .int a2] h (some (.int ro_), ho_) := by
  unfold zx_Army_lawOfSkill at hf
  obtain ⟨d, rfl⟩ : ∃ d', d = d' + 1 := ⟨d - 1, by omega⟩
  have hd : 2 ≤ d := by omega
  show zq_wp sc (d + 1) 50 0 [some (.ref a0), some (.int a1), some (.int a2)] [] h _
  refine zq_wg 1 (pc' := 1) (lv' := [some (.ref a0), some (.int a1), some (.int a2)]) (st' := [.ref a0]) (h' := h) rfl ?_
  obtain ⟨v1, e2, hf⟩ := zo_b_s hf
  refine zr_gR rfl rfl (by decide) rfl e2 ?_
  refine zq_wg 1 (pc' := 5) (lv' := [some (.ref a0), some (.int a1), some (.int a2)]) (st' := [.int (0 : Int32), .ref v1]) (h' := h) rfl ?_
  obtain ⟨e6, v4, h3, e5, hf⟩ := zo_v_s hf
  refine zr_cv zq_m51 [.int (0 : Int32)] [] rfl rfl rfl rfl rfl (Nat.le_of_ble_eq_true rfl) (Nat.le_of_ble_eq_true rfl) e6 (zx_Laws_isTold_ok sc d (by omega) e5) ?_
  refine zq_wg 0 (pc' := 8) (lv' := [some (.ref a0), some (.int a1), some (.int a2)]) (st' := [.int v4]) (h' := h3) rfl ?_
  refine zr_if (v4 = 0) 25 11 (st' := []) rfl rfl (fun b7 => ?_) (fun b7 => ?_)
  · have hf := zo_t hf b7
    refine zq_wg 1 (pc' := 26) (lv' := [some (.ref a0), some (.int a1), some (.int a2)]) (st' := [.ref a0]) (h' := h3) rfl ?_
    obtain ⟨v8, e9, hf⟩ := zo_b_s hf
    refine zr_gR rfl rfl (by decide) rfl e9 ?_
    refine zq_wg 1 (pc' := 30) (lv' := [some (.ref a0), some (.int a1), some (.int a2)]) (st' := [.int a2, .ref v8]) (h' := h3) rfl ?_
    obtain ⟨v11, h10, e12, hf⟩ := zo_c_s hf
    refine zr_cs zq_m12 [.ref v8, .int a2] [] rfl rfl (by decide) rfl rfl rfl (Nat.le_of_ble_eq_true rfl) (Nat.le_of_ble_eq_true rfl) (zx_at_ok sc d (by omega) e12) ?_
    refine zq_wg 0 (pc' := 33) (lv' := [some (.ref a0), some (.int a1), some (.int a2)]) (st' := [.int v11]) (h' := h10) rfl ?_
    refine zq_wg 1 (pc' := 34) (lv' := [some (.ref a0), some (.int a1), some (.int a2)]) (st' := [.int (1 : Int32), .int v11]) (h' := h10) rfl ?_
    refine zr_if (v11 = (1 : Int32)) 37 48 (st' := []) rfl rfl (fun b13 => ?_) (fun b13 => ?_)
    · have hf := zo_t hf b13
      refine zq_wg 1 (pc' := 38) (lv' := [some (.ref a0), some (.int a1), some (.int a2)]) (st' := [.ref a0]) (h' := h10) rfl ?_
      obtain ⟨v14, e15, hf⟩ := zo_b_s hf
      refine zr_gR rfl rfl (by decide) rfl e15 ?_
      refine zq_wg 1 (pc' := 42) (lv' := [some (.ref a0), some (.int a1), some (.int a2)]) (st' := [.int a1, .ref v14]) (h' := h10) rfl ?_
      obtain ⟨v17, h16, e18, hf⟩ := zo_c_s hf
      refine zr_cs zq_m12 [.ref v14, .int a1] [] rfl rfl (by decide) rfl rfl rfl (Nat.le_of_ble_eq_true rfl) (Nat.le_of_ble_eq_true rfl) (zx_at_ok sc d (by omega) e18) ?_
      refine zq_wg 0 (pc' := 45) (lv' := [some (.ref a0), some (.int a1), some (.int a2)]) (st' := [.int v17]) (h' := h16) rfl ?_
      refine zq_wg 1 (pc' := 56) (lv' := [some (.ref a0), some (.int a1), some (.int a2)]) (st' := [.int v17]) (h' := h16) rfl ?_
      exact zr_ri rfl rfl rfl hf
    · have hf := zo_f hf b13
      refine zq_wg 1 (pc' := 49) (lv' := [some (.ref a0), some (.int a1), some (.int a2)]) (st' := [.ref a0]) (h' := h10) rfl ?_
      obtain ⟨v19, e20, hf⟩ := zo_b_s hf
      refine zr_gR rfl rfl (by decide) rfl e20 ?_
      refine zq_wg 1 (pc' := 53) (lv' := [some (.ref a0), some (.int a1), some (.int a2)]) (st' := [.int a1, .ref v19]) (h' := h10) rfl ?_
      obtain ⟨v22, h21, e23, hf⟩ := zo_c_s hf
      refine zr_cs zq_m12 [.ref v19, .int a1] [] rfl rfl (by decide) rfl rfl rfl (Nat.le_of_ble_eq_true rfl) (Nat.le_of_ble_eq_true rfl) (zx_at_ok sc d (by omega) e23) ?_
      refine zq_wg 0 (pc' := 56) (lv' := [some (.ref a0), some (.int a1), some (.int a2)]) (st' := [.int v22]) (h' := h21) rfl ?_
      exact zr_ri rfl rfl rfl hf
  · have hf := zo_f hf b7
    refine zq_wg 4 (pc' := 15) (lv' := [some (.ref a0), some (.int a1), some (.int a2)]) (st' := [.int a2, .int a1, .int (0 : Int32), .ref a0]) (h' := h3) rfl ?_
    obtain ⟨e27, v25, h24, e26, hf⟩ := zo_v_s hf
    refine zr_cv zq_m52 [.int (0 : Int32), .int a1, .int a2] [] rfl rfl rfl rfl rfl (Nat.le_of_ble_eq_true rfl) (Nat.le_of_ble_eq_true rfl) e27 (zx_Army_lawOf_ok sc d (by omega) e26) ?_
    refine zq_wg 0 (pc' := 18) (lv' := [some (.ref a0), some (.int a1), some (.int a2)]) (st' := [.int v25]) (h' := h24) rfl ?_
    refine zq_wg 2 (pc' := 21) (lv' := [some (.ref a0), some (.int a1), some (.int a2)]) (st' := [.int (99 : Int32), .int (0 : Int32), .int v25]) (h' := h24) rfl ?_
    obtain ⟨v29, h28, e30, hf⟩ := zo_c_s hf
    refine zr_cs zq_m55 [.int v25, .int (0 : Int32), .int (99 : Int32)] [] rfl rfl (by decide) rfl rfl rfl (Nat.le_of_ble_eq_true rfl) (Nat.le_of_ble_eq_true rfl) (zx_clamp_ok sc d (by omega) e30) ?_
    refine zq_wg 0 (pc' := 24) (lv' := [some (.ref a0), some (.int a1), some (.int a2)]) (st' := [.int v29]) (h' := h28) rfl ?_
    exact zr_ri rfl rfl rfl hf
set_option maxRecDepth 4000 in
def zx_Army_lawOfWorth (sc : zX) (a0 : Nat) (a1 : Int32) (a2 : Int32) (h : zH) : Option (Int32 × zH) := zo_b (zo_gR h 0 a0 17) (fun v1 => zo_v h v1 1 (zx_Laws_isTold sc v1 (1 : Int32) h) (fun v4 h3 => if v4 = 0 then (zo_b (zo_gR h3 0 a0 8) (fun v8 => zo_c (zx_at sc v8 a2 h3) (fun v11 h10 => some (v11, h10)))) else (zo_v h3 a0 0 (zx_Army_lawOf sc a0 (1 : Int32) a1 a2 h3) (fun v14 h13 => some (v14, h13)))))
set_option maxRecDepth 4000 in
theorem zx_Army_lawOfWorth_ok (sc : zX) (d : Nat) (hd : 3 ≤ d) {a0 : Nat} {a1 : Int32} {a2 : Int32} {h : zH} {ro_ : Int32} {ho_ : zH} (hf : zx_Army_lawOfWorth sc a0 a1 a2 h = some (ro_, ho_)) : zq_wm sc d 56 [.ref a0, .int a1, .int a2] h (some (.int ro_), ho_) := by
  unfold zx_Army_lawOfWorth at hf
  obtain ⟨d, rfl⟩ : ∃ d', d = d' + 1 := ⟨d - 1, by omega⟩
  have hd : 2 ≤ d := by omega
  show zq_wp sc (d + 1) 56 0 [some (.ref a0), some (.int a1), some (.int a2)] [] h _
  refine zq_wg 1 (pc' := 1) (lv' := [some (.ref a0), some (.int a1), some (.int a2)]) (st' := [.ref a0]) (h' := h) rfl ?_
  obtain ⟨v1, e2, hf⟩ := zo_b_s hf
  refine zr_gR rfl rfl (by decide) rfl e2 ?_
  refine zq_wg 1 (pc' := 5) (lv' := [some (.ref a0), some (.int a1), some (.int a2)]) (st' := [.int (1 : Int32), .ref v1]) (h' := h) rfl ?_
  obtain ⟨e6, v4, h3, e5, hf⟩ := zo_v_s hf
  refine zr_cv zq_m51 [.int (1 : Int32)] [] rfl rfl rfl rfl rfl (Nat.le_of_ble_eq_true rfl) (Nat.le_of_ble_eq_true rfl) e6 (zx_Laws_isTold_ok sc d (by omega) e5) ?_
  refine zq_wg 0 (pc' := 8) (lv' := [some (.ref a0), some (.int a1), some (.int a2)]) (st' := [.int v4]) (h' := h3) rfl ?_
  refine zr_if (v4 = 0) 21 11 (st' := []) rfl rfl (fun b7 => ?_) (fun b7 => ?_)
  · have hf := zo_t hf b7
    refine zq_wg 1 (pc' := 22) (lv' := [some (.ref a0), some (.int a1), some (.int a2)]) (st' := [.ref a0]) (h' := h3) rfl ?_
    obtain ⟨v8, e9, hf⟩ := zo_b_s hf
    refine zr_gR rfl rfl (by decide) rfl e9 ?_
    refine zq_wg 1 (pc' := 26) (lv' := [some (.ref a0), some (.int a1), some (.int a2)]) (st' := [.int a2, .ref v8]) (h' := h3) rfl ?_
    obtain ⟨v11, h10, e12, hf⟩ := zo_c_s hf
    refine zr_cs zq_m12 [.ref v8, .int a2] [] rfl rfl (by decide) rfl rfl rfl (Nat.le_of_ble_eq_true rfl) (Nat.le_of_ble_eq_true rfl) (zx_at_ok sc d (by omega) e12) ?_
    refine zq_wg 0 (pc' := 29) (lv' := [some (.ref a0), some (.int a1), some (.int a2)]) (st' := [.int v11]) (h' := h10) rfl ?_
    exact zr_ri rfl rfl rfl hf
  · have hf := zo_f hf b7
    refine zq_wg 4 (pc' := 15) (lv' := [some (.ref a0), some (.int a1), some (.int a2)]) (st' := [.int a2, .int a1, .int (1 : Int32), .ref a0]) (h' := h3) rfl ?_
    obtain ⟨e16, v14, h13, e15, hf⟩ := zo_v_s hf
    refine zr_cv zq_m52 [.int (1 : Int32), .int a1, .int a2] [] rfl rfl rfl rfl rfl (Nat.le_of_ble_eq_true rfl) (Nat.le_of_ble_eq_true rfl) e16 (zx_Army_lawOf_ok sc d (by omega) e15) ?_
    refine zq_wg 0 (pc' := 18) (lv' := [some (.ref a0), some (.int a1), some (.int a2)]) (st' := [.int v14]) (h' := h13) rfl ?_
    refine zq_wg 1 (pc' := 29) (lv' := [some (.ref a0), some (.int a1), some (.int a2)]) (st' := [.int v14]) (h' := h13) rfl ?_
    exact zr_ri rfl rfl rfl hf
set_option maxRecDepth 4000 in
def zx_Army_fillTables_l12 (sc : zX) : Nat → Nat → Int32 → Int32 → zH → (Nat → Int32 → zH → Option (Unit × zH)) → Option (Unit × zH)
  | 0, _, _, _, _, _ => none
  | n + 1, y7, y8, y9, h10, k64 => zo_b (zo_gI h10 0 y7 0) (fun v11 => if v11 ≤ y9 then (k64 y7 y8 h10) else (zo_b (zo_gR h10 0 y7 15) (fun v14 => zo_v h10 y7 0 (zx_Army_lawOfSkill sc y7 y8 y9 h10) (fun v17 h16 => zo_c (zx_put sc v14 ((y8 * (6 : Int32)) + y9) v17 h16) (fun w21 h20 => zo_b (zo_gR h20 0 y7 16) (fun v23 => zo_v h20 y7 0 (zx_Army_lawOfWorth sc y7 y8 y9 h20) (fun v26 h25 => zo_c (zx_put sc v23 ((y8 * (6 : Int32)) + y9) v26 h25) (fun w30 h29 => zx_Army_fillTables_l12 sc n y7 y8 (y9 + (1 : Int32)) h29 k64))))))))
set_option maxRecDepth 4000 in
def zx_Army_fillTables_l2 (sc : zX) : Nat → Nat → Int32 → zH → Option (Unit × zH)
  | 0, _, _, _ => none
  | n + 1, y1, y2, h3 => zo_b (zo_gI h3 0 y1 1) (fun v4 => if v4 ≤ y2 then (some ((), h3)) else (zx_Army_fillTables_l12 sc zo_F y1 y2 (0 : Int32) h3 (fun (x32 : Nat) (x33 : Int32) (h34 : zH) => zx_Army_fillTables_l2 sc n x32 (x33 + (1 : Int32)) h34 )))
set_option maxRecDepth 4000 in
def zx_Army_fillTables (sc : zX) (a0 : Nat) (h : zH) : Option (Unit × zH) := zx_Army_fillTables_l2 sc zo_F a0 (0 : Int32) h 
set_option maxRecDepth 4000 in
theorem zx_Army_fillTables_l12_ok (sc : zX) (d : Nat) (hd : 3 ≤ d) : ∀ (n : Nat) (y7 : Nat) (y8 : Int32) (y9 : Int32) (h10 : zH) (k64 : Nat → Int32 → zH → Option (Unit × zH)) (ro_ : Unit) (ho_ : zH), (∀ (z0 : Nat) (z1 : Int32) (hz : zH), k64 z0 z1 hz = some (ro_, ho_) → zq_wp sc (d + 1) 49 64 [some (.ref z0), some (.int z1), none] [] hz (none, ho_)) → zx_Army_fillTables_l12 sc n y7 y8 y9 h10 k64 = some (ro_, ho_) → zq_wp sc (d + 1) 49 12 [some (.ref y7), some (.int y8), some (.int y9)] [] h10 (none, ho_) := by
  intro n
  induction n with
  | zero => intro y7 y8 y9 h10 k64 ro_ ho_ hk64 hf; cases hf
  | succ n ih =>
    intro y7 y8 y9 h10 k64 ro_ ho_ hk64 hf
    refine zq_wg 2 (pc' := 14) (lv' := [some (.ref y7), some (.int y8), some (.int y9)]) (st' := [.ref y7, .int y9]) (h' := h10) rfl ?_
    obtain ⟨v11, e12, hf⟩ := zo_b_s hf
    refine zr_gI rfl rfl (by decide) rfl e12 ?_
    refine zr_if (v11 ≤ y9) 64 20 (st' := []) rfl rfl (fun b13 => ?_) (fun b13 => ?_)
    · have hf := zo_t hf b13
      refine zq_fg [some (.ref y7), some (.int y8), none] (zq_lvle_s (zq_lvle_s (zq_lvle_n zq_lvle_nil))) ?_
      exact hk64 y7 y8 h10 hf
    · have hf := zo_f hf b13
      refine zq_wg 1 (pc' := 21) (lv' := [some (.ref y7), some (.int y8), some (.int y9)]) (st' := [.ref y7]) (h' := h10) rfl ?_
      obtain ⟨v14, e15, hf⟩ := zo_b_s hf
      refine zr_gR rfl rfl (by decide) rfl e15 ?_
      refine zq_wg 8 (pc' := 33) (lv' := [some (.ref y7), some (.int y8), some (.int y9)]) (st' := [.int y9, .int y8, .ref y7, .int ((y8 * (6 : Int32)) + y9), .ref v14]) (h' := h10) rfl ?_
      obtain ⟨e19, v17, h16, e18, hf⟩ := zo_v_s hf
      refine zr_cv zq_m50 [.int y8, .int y9] [.int ((y8 * (6 : Int32)) + y9), .ref v14] rfl rfl rfl rfl rfl (Nat.le_of_ble_eq_true rfl) (Nat.le_of_ble_eq_true rfl) e19 (zx_Army_lawOfSkill_ok sc d (by omega) e18) ?_
      refine zq_wg 0 (pc' := 36) (lv' := [some (.ref y7), some (.int y8), some (.int y9)]) (st' := [.int v17, .int ((y8 * (6 : Int32)) + y9), .ref v14]) (h' := h16) rfl ?_
      obtain ⟨w21, h20, e22, hf⟩ := zo_c_s hf
      refine zr_cs zq_m11 [.ref v14, .int ((y8 * (6 : Int32)) + y9), .int v17] [] rfl rfl (by decide) rfl rfl rfl (Nat.le_of_ble_eq_true rfl) (Nat.le_of_ble_eq_true rfl) (zx_put_ok sc d (by omega) e22) ?_
      refine zq_wg 0 (pc' := 39) (lv' := [some (.ref y7), some (.int y8), some (.int y9)]) (st' := []) (h' := h20) rfl ?_
      refine zq_wg 1 (pc' := 40) (lv' := [some (.ref y7), some (.int y8), some (.int y9)]) (st' := [.ref y7]) (h' := h20) rfl ?_
      obtain ⟨v23, e24, hf⟩ := zo_b_s hf
      refine zr_gR rfl rfl (by decide) rfl e24 ?_
      refine zq_wg 8 (pc' := 52) (lv' := [some (.ref y7), some (.int y8), some (.int y9)]) (st' := [.int y9, .int y8, .ref y7, .int ((y8 * (6 : Int32)) + y9), .ref v23]) (h' := h20) rfl ?_
      obtain ⟨e28, v26, h25, e27, hf⟩ := zo_v_s hf
      refine zr_cv zq_m56 [.int y8, .int y9] [.int ((y8 * (6 : Int32)) + y9), .ref v23] rfl rfl rfl rfl rfl (Nat.le_of_ble_eq_true rfl) (Nat.le_of_ble_eq_true rfl) e28 (zx_Army_lawOfWorth_ok sc d (by omega) e27) ?_
      refine zq_wg 0 (pc' := 55) (lv' := [some (.ref y7), some (.int y8), some (.int y9)]) (st' := [.int v26, .int ((y8 * (6 : Int32)) + y9), .ref v23]) (h' := h25) rfl ?_
      obtain ⟨w30, h29, e31, hf⟩ := zo_c_s hf
      refine zr_cs zq_m11 [.ref v23, .int ((y8 * (6 : Int32)) + y9), .int v26] [] rfl rfl (by decide) rfl rfl rfl (Nat.le_of_ble_eq_true rfl) (Nat.le_of_ble_eq_true rfl) (zx_put_ok sc d (by omega) e31) ?_
      refine zq_wg 0 (pc' := 58) (lv' := [some (.ref y7), some (.int y8), some (.int y9)]) (st' := []) (h' := h29) rfl ?_
      refine zq_wg 2 (pc' := 12) (lv' := [some (.ref y7), some (.int y8), some (.int (y9 + (1 : Int32)))]) (st' := []) (h' := h29) rfl ?_
      exact ih y7 y8 (y9 + (1 : Int32)) h29 _ _ _ hk64 hf
set_option maxRecDepth 4000 in
theorem zx_Army_fillTables_l2_ok (sc : zX) (d : Nat) (hd : 3 ≤ d) : ∀ (n : Nat) (y1 : Nat) (y2 : Int32) (h3 : zH) (ro_ : Unit) (ho_ : zH),  zx_Army_fillTables_l2 sc n y1 y2 h3  = some (ro_, ho_) → zq_wp sc (d + 1) 49 2 [some (.ref y1), some (.int y2), none] [] h3 (none, ho_) := by
  intro n
  induction n with
  | zero => intro y1 y2 h3 ro_ ho_ hf; cases hf
  | succ n ih =>
    intro y1 y2 h3 ro_ ho_ hf
    refine zq_wg 2 (pc' := 4) (lv' := [some (.ref y1), some (.int y2), none]) (st' := [.ref y1, .int y2]) (h' := h3) rfl ?_
    obtain ⟨v4, e5, hf⟩ := zo_b_s hf
    refine zr_gI rfl rfl (by decide) rfl e5 ?_
    refine zr_if (v4 ≤ y2) 70 10 (st' := []) rfl rfl (fun b6 => ?_) (fun b6 => ?_)
    · have hf := zo_t hf b6
      exact zr_rv rfl rfl hf
    · have hf := zo_f hf b6
      refine zq_wg 2 (pc' := 12) (lv' := [some (.ref y1), some (.int y2), some (.int (0 : Int32))]) (st' := []) (h' := h3) rfl ?_
      refine zx_Army_fillTables_l12_ok sc d hd zo_F y1 y2 (0 : Int32) h3 _ _ _ ?_ hf
      · intro x32 x33 h34 hf
        refine zq_wg 2 (pc' := 2) (lv' := [some (.ref x32), some (.int (x33 + (1 : Int32))), none]) (st' := []) (h' := h34) rfl ?_
        exact ih x32 (x33 + (1 : Int32)) h34 _ _ hf
set_option maxRecDepth 4000 in
theorem zx_Army_fillTables_ok (sc : zX) (d : Nat) (hd : 4 ≤ d) {a0 : Nat} {h : zH} {ro_ : Unit} {ho_ : zH} (hf : zx_Army_fillTables sc a0 h = some (ro_, ho_)) : zq_wm sc d 49 [.ref a0] h (none, ho_) := by
  unfold zx_Army_fillTables at hf
  obtain ⟨d, rfl⟩ : ∃ d', d = d' + 1 := ⟨d - 1, by omega⟩
  have hd : 3 ≤ d := by omega
  show zq_wp sc (d + 1) 49 0 [some (.ref a0), none, none] [] h _
  refine zq_wg 2 (pc' := 2) (lv' := [some (.ref a0), some (.int (0 : Int32)), none]) (st' := []) (h' := h) rfl ?_
  refine zx_Army_fillTables_l2_ok sc d hd zo_F a0 (0 : Int32) h _ _ hf
set_option maxRecDepth 4000 in
def zx_Tape_endReading (sc : zX) (a0 : Nat) (h : zH) : Option (Int32 × zH) := zo_b (zo_pI h 5 a0 1 (0 : Int32)) (fun h1 => zo_b (zo_gI h1 5 a0 9) (fun v3 => some (v3, h1)))
set_option maxRecDepth 4000 in
theorem zx_Tape_endReading_ok (sc : zX) (d : Nat) (hd : 0 ≤ d) {a0 : Nat} {h : zH} {ro_ : Int32} {ho_ : zH} (hf : zx_Tape_endReading sc a0 h = some (ro_, ho_)) : zq_wm sc d 57 [.ref a0] h (some (.int ro_), ho_) := by
  unfold zx_Tape_endReading at hf
  show zq_wp sc d 57 0 [some (.ref a0)] [] h _
  refine zq_wg 2 (pc' := 2) (lv' := [some (.ref a0)]) (st' := [.int (0 : Int32), .ref a0]) (h' := h) rfl ?_
  obtain ⟨h1, e2, hf⟩ := zo_b_s hf
  refine zr_pI rfl rfl (by decide) rfl rfl e2 ?_
  refine zq_wg 1 (pc' := 6) (lv' := [some (.ref a0)]) (st' := [.ref a0]) (h' := h1) rfl ?_
  obtain ⟨v3, e4, hf⟩ := zo_b_s hf
  refine zr_gI rfl rfl (by decide) rfl e4 ?_
  exact zr_ri rfl rfl rfl hf
set_option maxRecDepth 4000 in
def zx_Army_readFrom_l14 (sc : zX) : Nat → Nat → Nat → Int32 → Int32 → zH → (Nat → Nat → zH → Option (Int32 × zH)) → Option (Int32 × zH)
  | 0, _, _, _, _, _, _ => none
  | n + 1, y9, y10, y11, y12, h13, k41 => if y12 ≤ 0 then (k41 y9 y10 h13) else (if y11 = 0 then (k41 y9 y10 h13) else (zo_b (zo_gI h13 5 y10 2) (fun v16 => if v16 = 0 then (k41 y9 y10 h13) else (zo_v h13 y9 0 (zx_Army_readLine sc y9 y10 h13) (fun v20 h19 => zx_Army_readFrom_l14 sc n y9 y10 v20 (y12 + (-1 : Int32)) h19 k41)))))
set_option maxRecDepth 4000 in
def zx_Army_readFrom (sc : zX) (a0 : Nat) (a1 : Nat) (h : zH) : Option (Int32 × zH) := zo_v h a0 0 (zx_Army_clear sc a0 h) (fun w2 h1 => zo_v h1 a1 5 (zx_Tape_startReading sc a1 h1) (fun w6 h5 => zx_Army_readFrom_l14 sc zo_F a0 a1 (1 : Int32) (1000 : Int32) h5 (fun (x23 : Nat) (x24 : Nat) (h25 : zH) => zo_v h25 x23 0 (zx_Army_fillTables sc x23 h25) (fun w27 h26 => zo_v h26 x24 5 (zx_Tape_endReading sc x24 h26) (fun v31 h30 => some (v31, h30))))))
set_option maxRecDepth 4000 in
theorem zx_Army_readFrom_l14_ok (sc : zX) (d : Nat) (hd : 69 ≤ d) : ∀ (n : Nat) (y9 : Nat) (y10 : Nat) (y11 : Int32) (y12 : Int32) (h13 : zH) (k41 : Nat → Nat → zH → Option (Int32 × zH)) (ro_ : Int32) (ho_ : zH), (∀ (z0 : Nat) (z1 : Nat) (hz : zH), k41 z0 z1 hz = some (ro_, ho_) → zq_wp sc (d + 1) 16 41 [some (.ref z0), some (.ref z1), none, none] [] hz (some (.int ro_), ho_)) → zx_Army_readFrom_l14 sc n y9 y10 y11 y12 h13 k41 = some (ro_, ho_) → zq_wp sc (d + 1) 16 14 [some (.ref y9), some (.ref y10), some (.int y11), some (.int y12)] [] h13 (some (.int ro_), ho_) := by
  intro n
  induction n with
  | zero => intro y9 y10 y11 y12 h13 k41 ro_ ho_ hk41 hf; cases hf
  | succ n ih =>
    intro y9 y10 y11 y12 h13 k41 ro_ ho_ hk41 hf
    refine zq_wg 1 (pc' := 15) (lv' := [some (.ref y9), some (.ref y10), some (.int y11), some (.int y12)]) (st' := [.int y12]) (h' := h13) rfl ?_
    refine zr_if (y12 ≤ 0) 41 18 (st' := []) rfl rfl (fun b14 => ?_) (fun b14 => ?_)
    · have hf := zo_t hf b14
      refine zq_fg [some (.ref y9), some (.ref y10), none, none] (zq_lvle_s (zq_lvle_s (zq_lvle_n (zq_lvle_n zq_lvle_nil)))) ?_
      exact hk41 y9 y10 h13 hf
    · have hf := zo_f hf b14
      refine zq_wg 1 (pc' := 19) (lv' := [some (.ref y9), some (.ref y10), some (.int y11), some (.int y12)]) (st' := [.int y11]) (h' := h13) rfl ?_
      refine zr_if (y11 = 0) 41 22 (st' := []) rfl rfl (fun b15 => ?_) (fun b15 => ?_)
      · have hf := zo_t hf b15
        refine zq_fg [some (.ref y9), some (.ref y10), none, none] (zq_lvle_s (zq_lvle_s (zq_lvle_n (zq_lvle_n zq_lvle_nil)))) ?_
        exact hk41 y9 y10 h13 hf
      · have hf := zo_f hf b15
        refine zq_wg 1 (pc' := 23) (lv' := [some (.ref y9), some (.ref y10), some (.int y11), some (.int y12)]) (st' := [.ref y10]) (h' := h13) rfl ?_
        obtain ⟨v16, e17, hf⟩ := zo_b_s hf
        refine zr_gI rfl rfl (by decide) rfl e17 ?_
        refine zr_if (v16 = 0) 41 29 (st' := []) rfl rfl (fun b18 => ?_) (fun b18 => ?_)
        · have hf := zo_t hf b18
          refine zq_fg [some (.ref y9), some (.ref y10), none, none] (zq_lvle_s (zq_lvle_s (zq_lvle_n (zq_lvle_n zq_lvle_nil)))) ?_
          exact hk41 y9 y10 h13 hf
        · have hf := zo_f hf b18
          refine zq_wg 2 (pc' := 31) (lv' := [some (.ref y9), some (.ref y10), some (.int y11), some (.int y12)]) (st' := [.ref y10, .ref y9]) (h' := h13) rfl ?_
          obtain ⟨e22, v20, h19, e21, hf⟩ := zo_v_s hf
          refine zr_cv zq_m24 [.ref y10] [] rfl rfl rfl rfl rfl (Nat.le_of_ble_eq_true rfl) (Nat.le_of_ble_eq_true rfl) e22 (zx_Army_readLine_ok sc d (by omega) e21) ?_
          refine zq_wg 0 (pc' := 34) (lv' := [some (.ref y9), some (.ref y10), some (.int y11), some (.int y12)]) (st' := [.int v20]) (h' := h19) rfl ?_
          refine zq_wg 3 (pc' := 14) (lv' := [some (.ref y9), some (.ref y10), some (.int v20), some (.int (y12 + (-1 : Int32)))]) (st' := []) (h' := h19) rfl ?_
          exact ih y9 y10 v20 (y12 + (-1 : Int32)) h19 _ _ _ hk41 hf
set_option maxRecDepth 4000 in
theorem zx_Army_readFrom_ok (sc : zX) (d : Nat) (hd : 70 ≤ d) {a0 : Nat} {a1 : Nat} {h : zH} {ro_ : Int32} {ho_ : zH} (hf : zx_Army_readFrom sc a0 a1 h = some (ro_, ho_)) : zq_wm sc d 16 [.ref a0, .ref a1] h (some (.int ro_), ho_) := by
  unfold zx_Army_readFrom at hf
  obtain ⟨d, rfl⟩ : ∃ d', d = d' + 1 := ⟨d - 1, by omega⟩
  have hd : 69 ≤ d := by omega
  show zq_wp sc (d + 1) 16 0 [some (.ref a0), some (.ref a1), none, none] [] h _
  refine zq_wg 1 (pc' := 1) (lv' := [some (.ref a0), some (.ref a1), none, none]) (st' := [.ref a0]) (h' := h) rfl ?_
  obtain ⟨e4, w2, h1, e3, hf⟩ := zo_v_s hf
  refine zr_cv zq_m17 [] [] rfl rfl rfl rfl rfl (Nat.le_of_ble_eq_true rfl) (Nat.le_of_ble_eq_true rfl) e4 (zx_Army_clear_ok sc d (by omega) e3) ?_
  refine zq_wg 0 (pc' := 4) (lv' := [some (.ref a0), some (.ref a1), none, none]) (st' := []) (h' := h1) rfl ?_
  refine zq_wg 1 (pc' := 5) (lv' := [some (.ref a0), some (.ref a1), none, none]) (st' := [.ref a1]) (h' := h1) rfl ?_
  obtain ⟨e8, w6, h5, e7, hf⟩ := zo_v_s hf
  refine zr_cv zq_m19 [] [] rfl rfl rfl rfl rfl (Nat.le_of_ble_eq_true rfl) (Nat.le_of_ble_eq_true rfl) e8 (zx_Tape_startReading_ok sc d (by omega) e7) ?_
  refine zq_wg 0 (pc' := 8) (lv' := [some (.ref a0), some (.ref a1), none, none]) (st' := []) (h' := h5) rfl ?_
  refine zq_wg 4 (pc' := 14) (lv' := [some (.ref a0), some (.ref a1), some (.int (1 : Int32)), some (.int (1000 : Int32))]) (st' := []) (h' := h5) rfl ?_
  refine zx_Army_readFrom_l14_ok sc d hd zo_F a0 a1 (1 : Int32) (1000 : Int32) h5 _ _ _ ?_ hf
  · intro x23 x24 h25 hf
    refine zq_wg 1 (pc' := 42) (lv' := [some (.ref x23), some (.ref x24), none, none]) (st' := [.ref x23]) (h' := h25) rfl ?_
    obtain ⟨e29, w27, h26, e28, hf⟩ := zo_v_s hf
    refine zr_cv zq_m49 [] [] rfl rfl rfl rfl rfl (Nat.le_of_ble_eq_true rfl) (Nat.le_of_ble_eq_true rfl) e29 (zx_Army_fillTables_ok sc d (by omega) e28) ?_
    refine zq_wg 0 (pc' := 45) (lv' := [some (.ref x23), some (.ref x24), none, none]) (st' := []) (h' := h26) rfl ?_
    refine zq_wg 1 (pc' := 46) (lv' := [some (.ref x23), some (.ref x24), none, none]) (st' := [.ref x24]) (h' := h26) rfl ?_
    obtain ⟨e33, v31, h30, e32, hf⟩ := zo_v_s hf
    refine zr_cv zq_m57 [] [] rfl rfl rfl rfl rfl (Nat.le_of_ble_eq_true rfl) (Nat.le_of_ble_eq_true rfl) e33 (zx_Tape_endReading_ok sc d (by omega) e32) ?_
    refine zq_wg 0 (pc' := 49) (lv' := [some (.ref x23), some (.ref x24), none, none]) (st' := [.int v31]) (h' := h30) rfl ?_
    exact zr_ri rfl rfl rfl hf
set_option maxRecDepth 4000 in
def zx_Notes_forget (sc : zX) (a0 : Nat) (h : zH) : Option (Unit × zH) := zo_b (zo_pI h 2 a0 3 (0 : Int32)) (fun h1 => zo_b (zo_pI h1 2 a0 4 (0 : Int32)) (fun h3 => some ((), h3)))
set_option maxRecDepth 4000 in
theorem zx_Notes_forget_ok (sc : zX) (d : Nat) (hd : 0 ≤ d) {a0 : Nat} {h : zH} {ro_ : Unit} {ho_ : zH} (hf : zx_Notes_forget sc a0 h = some (ro_, ho_)) : zq_wm sc d 58 [.ref a0] h (none, ho_) := by
  unfold zx_Notes_forget at hf
  show zq_wp sc d 58 0 [some (.ref a0)] [] h _
  refine zq_wg 2 (pc' := 2) (lv' := [some (.ref a0)]) (st' := [.int (0 : Int32), .ref a0]) (h' := h) rfl ?_
  obtain ⟨h1, e2, hf⟩ := zo_b_s hf
  refine zr_pI rfl rfl (by decide) rfl rfl e2 ?_
  refine zq_wg 2 (pc' := 7) (lv' := [some (.ref a0)]) (st' := [.int (0 : Int32), .ref a0]) (h' := h1) rfl ?_
  obtain ⟨h3, e4, hf⟩ := zo_b_s hf
  refine zr_pI rfl rfl (by decide) rfl rfl e4 ?_
  exact zr_rv rfl rfl hf
set_option maxRecDepth 4000 in
def zx_army (sc : zX) (a0 : Nat) (h : zH) : Option (Int32 × zH) := zo_b (zo_gR h 9 a0 12) (fun v1 => zo_b (zo_gR h 9 a0 0) (fun v3 => zo_v h v1 0 (zx_Army_readFrom sc v1 v3 h) (fun v6 h5 => if v6 = 0 then (zo_b (zo_gR h5 9 a0 12) (fun v10 => zo_b (zo_gR h5 9 a0 11) (fun v12 => zo_b (zo_pR h5 9 a0 12 (some v12)) (fun h14 => zo_b (zo_pR h14 9 a0 11 (some v10)) (fun h16 => zo_b (zo_gR h16 9 a0 1) (fun v18 => zo_b (zo_gR h16 9 a0 11) (fun v20 => zo_v h16 v18 4 (zx_State_begin sc v18 v20 h16) (fun w23 h22 => zo_b (zo_gR h22 9 a0 3) (fun v26 => zo_v h22 v26 2 (zx_Notes_forget sc v26 h22) (fun w29 h28 => zo_b (zo_gR h28 9 a0 13) (fun v32 => zo_b (zo_pI h28 7 v32 0 (0 : Int32)) (fun h34 => zo_b (zo_gR h34 9 a0 4) (fun v36 => zo_b (zo_pB h34 8 v36 0 (0 : Int32)) (fun h38 => zo_b (zo_pI h38 9 a0 15 (0 : Int32)) (fun h40 => zo_b (zo_pI h40 9 a0 17 (0 : Int32)) (fun h42 => some ((0 : Int32), h42))))))))))))))))) else (some (v6, h5)))))
set_option maxRecDepth 4000 in
theorem zx_army_ok (sc : zX) (d : Nat) (hd : 71 ≤ d) {a0 : Nat} {h : zH} {ro_ : Int32} {ho_ : zH} (hf : zx_army sc a0 h = some (ro_, ho_)) : zq_wm sc d 15 [.ref a0] h (some (.int ro_), ho_) := by
  unfold zx_army at hf
  obtain ⟨d, rfl⟩ : ∃ d', d = d' + 1 := ⟨d - 1, by omega⟩
  have hd : 70 ≤ d := by omega
  show zq_wp sc (d + 1) 15 0 [some (.ref a0), none, none] [] h _
  refine zq_wg 1 (pc' := 1) (lv' := [some (.ref a0), none, none]) (st' := [.ref a0]) (h' := h) rfl ?_
  obtain ⟨v1, e2, hf⟩ := zo_b_s hf
  refine zr_gR rfl rfl (by decide) rfl e2 ?_
  refine zq_wg 1 (pc' := 5) (lv' := [some (.ref a0), none, none]) (st' := [.ref a0, .ref v1]) (h' := h) rfl ?_
  obtain ⟨v3, e4, hf⟩ := zo_b_s hf
  refine zr_gR rfl rfl (by decide) rfl e4 ?_
  obtain ⟨e8, v6, h5, e7, hf⟩ := zo_v_s hf
  refine zr_cv zq_m16 [.ref v3] [] rfl rfl rfl rfl rfl (Nat.le_of_ble_eq_true rfl) (Nat.le_of_ble_eq_true rfl) e8 (zx_Army_readFrom_ok sc d (by omega) e7) ?_
  refine zq_wg 0 (pc' := 11) (lv' := [some (.ref a0), none, none]) (st' := [.int v6]) (h' := h5) rfl ?_
  refine zq_wg 2 (pc' := 13) (lv' := [some (.ref a0), some (.int v6), none]) (st' := [.int v6]) (h' := h5) rfl ?_
  refine zr_if (v6 = 0) 18 16 (st' := []) rfl rfl (fun b9 => ?_) (fun b9 => ?_)
  · have hf := zo_t hf b9
    refine zq_wg 1 (pc' := 19) (lv' := [some (.ref a0), some (.int v6), none]) (st' := [.ref a0]) (h' := h5) rfl ?_
    obtain ⟨v10, e11, hf⟩ := zo_b_s hf
    refine zr_gR rfl rfl (by decide) rfl e11 ?_
    refine zq_wg 3 (pc' := 25) (lv' := [some (.ref a0), some (.int v6), some (.ref v10)]) (st' := [.ref a0, .ref a0]) (h' := h5) rfl ?_
    obtain ⟨v12, e13, hf⟩ := zo_b_s hf
    refine zr_gR rfl rfl (by decide) rfl e13 ?_
    obtain ⟨h14, e15, hf⟩ := zo_b_s hf
    refine zr_pR (v := (some v12)) rfl rfl (by decide) rfl rfl e15 ?_
    refine zq_wg 2 (pc' := 33) (lv' := [some (.ref a0), some (.int v6), some (.ref v10)]) (st' := [.ref v10, .ref a0]) (h' := h14) rfl ?_
    obtain ⟨h16, e17, hf⟩ := zo_b_s hf
    refine zr_pR (v := (some v10)) rfl rfl (by decide) rfl rfl e17 ?_
    refine zq_wg 1 (pc' := 37) (lv' := [some (.ref a0), some (.int v6), some (.ref v10)]) (st' := [.ref a0]) (h' := h16) rfl ?_
    obtain ⟨v18, e19, hf⟩ := zo_b_s hf
    refine zr_gR rfl rfl (by decide) rfl e19 ?_
    refine zq_wg 1 (pc' := 41) (lv' := [some (.ref a0), some (.int v6), some (.ref v10)]) (st' := [.ref a0, .ref v18]) (h' := h16) rfl ?_
    obtain ⟨v20, e21, hf⟩ := zo_b_s hf
    refine zr_gR rfl rfl (by decide) rfl e21 ?_
    obtain ⟨e25, w23, h22, e24, hf⟩ := zo_v_s hf
    refine zr_cv zq_m10 [.ref v20] [] rfl rfl rfl rfl rfl (Nat.le_of_ble_eq_true rfl) (Nat.le_of_ble_eq_true rfl) e25 (zx_State_begin_ok sc d (by omega) e24) ?_
    refine zq_wg 0 (pc' := 47) (lv' := [some (.ref a0), some (.int v6), some (.ref v10)]) (st' := []) (h' := h22) rfl ?_
    refine zq_wg 1 (pc' := 48) (lv' := [some (.ref a0), some (.int v6), some (.ref v10)]) (st' := [.ref a0]) (h' := h22) rfl ?_
    obtain ⟨v26, e27, hf⟩ := zo_b_s hf
    refine zr_gR rfl rfl (by decide) rfl e27 ?_
    obtain ⟨e31, w29, h28, e30, hf⟩ := zo_v_s hf
    refine zr_cv zq_m58 [] [] rfl rfl rfl rfl rfl (Nat.le_of_ble_eq_true rfl) (Nat.le_of_ble_eq_true rfl) e31 (zx_Notes_forget_ok sc d (by omega) e30) ?_
    refine zq_wg 0 (pc' := 54) (lv' := [some (.ref a0), some (.int v6), some (.ref v10)]) (st' := []) (h' := h28) rfl ?_
    refine zq_wg 1 (pc' := 55) (lv' := [some (.ref a0), some (.int v6), some (.ref v10)]) (st' := [.ref a0]) (h' := h28) rfl ?_
    obtain ⟨v32, e33, hf⟩ := zo_b_s hf
    refine zr_gR rfl rfl (by decide) rfl e33 ?_
    refine zq_wg 1 (pc' := 59) (lv' := [some (.ref a0), some (.int v6), some (.ref v10)]) (st' := [.int (0 : Int32), .ref v32]) (h' := h28) rfl ?_
    obtain ⟨h34, e35, hf⟩ := zo_b_s hf
    refine zr_pI rfl rfl (by decide) rfl rfl e35 ?_
    refine zq_wg 1 (pc' := 63) (lv' := [some (.ref a0), some (.int v6), some (.ref v10)]) (st' := [.ref a0]) (h' := h34) rfl ?_
    obtain ⟨v36, e37, hf⟩ := zo_b_s hf
    refine zr_gR rfl rfl (by decide) rfl e37 ?_
    refine zq_wg 1 (pc' := 67) (lv' := [some (.ref a0), some (.int v6), some (.ref v10)]) (st' := [.int (0 : Int32), .ref v36]) (h' := h34) rfl ?_
    obtain ⟨h38, e39, hf⟩ := zo_b_s hf
    refine zr_pB rfl rfl (by decide) rfl rfl e39 ?_
    refine zq_wg 2 (pc' := 72) (lv' := [some (.ref a0), some (.int v6), some (.ref v10)]) (st' := [.int (0 : Int32), .ref a0]) (h' := h38) rfl ?_
    obtain ⟨h40, e41, hf⟩ := zo_b_s hf
    refine zr_pI rfl rfl (by decide) rfl rfl e41 ?_
    refine zq_wg 2 (pc' := 77) (lv' := [some (.ref a0), some (.int v6), some (.ref v10)]) (st' := [.int (0 : Int32), .ref a0]) (h' := h40) rfl ?_
    obtain ⟨h42, e43, hf⟩ := zo_b_s hf
    refine zr_pI rfl rfl (by decide) rfl rfl e43 ?_
    refine zq_wg 1 (pc' := 81) (lv' := [some (.ref a0), some (.int v6), some (.ref v10)]) (st' := [.int (0 : Int32)]) (h' := h42) rfl ?_
    exact zr_ri rfl rfl rfl hf
  · have hf := zo_f hf b9
    refine zq_wg 1 (pc' := 17) (lv' := [some (.ref a0), some (.int v6), none]) (st' := [.int v6]) (h' := h5) rfl ?_
    exact zr_ri rfl rfl rfl hf
set_option maxRecDepth 4000 in
def zx_War_takeMan (sc : zX) (a0 : Nat) (a1 : Nat) (a2 : Int32) (h : zH) : Option (Int32 × zH) := zo_v h a0 5 (zx_Tape_isName sc a0 h) (fun v2 h1 => if v2 = 0 then (zo_v h1 a0 5 (zx_Tape_wrong sc a0 (1 : Int32) h1) (fun v7 h6 => zo_rb v7 h6)) else (zo_b (zo_gL h1 5 a0 4) (fun v10 => zo_v h1 a1 0 (zx_Army_manNamed sc a1 v10 h1) (fun v13 h12 => if v13 = (-1 : Int32) then (zo_v h12 a0 5 (zx_Tape_wrong sc a0 (2 : Int32) h12) (fun v18 h17 => zo_rb v18 h17)) else (if v13 = a2 then (zo_v h12 a0 5 (zx_Tape_wrong sc a0 (3 : Int32) h12) (fun v23 h22 => zo_rb v23 h22)) else (zo_b (zo_pI h12 5 a0 5 v13) (fun h26 => zo_v h26 a0 5 (zx_Tape_step sc a0 h26) (fun w29 h28 => some ((1 : Int32), h28)))))))))
set_option maxRecDepth 4000 in
theorem zx_War_takeMan_ok (sc : zX) (d : Nat) (hd : 2 ≤ d) {a0 : Nat} {a1 : Nat} {a2 : Int32} {h : zH} {ro_ : Int32} {ho_ : zH} (hf : zx_War_takeMan sc a0 a1 a2 h = some (ro_, ho_)) : zq_wm sc d 64 [.ref a0, .ref a1, .int a2] h (some (.int ro_), ho_) := by
  unfold zx_War_takeMan at hf
  obtain ⟨d, rfl⟩ : ∃ d', d = d' + 1 := ⟨d - 1, by omega⟩
  have hd : 1 ≤ d := by omega
  show zq_wp sc (d + 1) 64 0 [some (.ref a0), some (.ref a1), some (.int a2), none] [] h _
  refine zq_wg 1 (pc' := 1) (lv' := [some (.ref a0), some (.ref a1), some (.int a2), none]) (st' := [.ref a0]) (h' := h) rfl ?_
  obtain ⟨e4, v2, h1, e3, hf⟩ := zo_v_s hf
  refine zr_cv zq_m28 [] [] rfl rfl rfl rfl rfl (Nat.le_of_ble_eq_true rfl) (Nat.le_of_ble_eq_true rfl) e4 (zx_Tape_isName_ok sc d (by omega) e3) ?_
  refine zq_wg 0 (pc' := 4) (lv' := [some (.ref a0), some (.ref a1), some (.int a2), none]) (st' := [.int v2]) (h' := h1) rfl ?_
  refine zr_if (v2 = 0) 7 13 (st' := []) rfl rfl (fun b5 => ?_) (fun b5 => ?_)
  · have hf := zo_t hf b5
    refine zq_wg 2 (pc' := 9) (lv' := [some (.ref a0), some (.ref a1), some (.int a2), none]) (st' := [.int (1 : Int32), .ref a0]) (h' := h1) rfl ?_
    obtain ⟨e9, v7, h6, e8, hf⟩ := zo_v_s hf
    refine zr_cv zq_m26 [.int (1 : Int32)] [] rfl rfl rfl rfl rfl (Nat.le_of_ble_eq_true rfl) (Nat.le_of_ble_eq_true rfl) e9 (zx_Tape_wrong_ok sc d (by omega) e8) ?_
    refine zq_wg 0 (pc' := 12) (lv' := [some (.ref a0), some (.ref a1), some (.int a2), none]) (st' := [.int v7]) (h' := h6) rfl ?_
    exact zr_rb rfl rfl hf
  · have hf := zo_f hf b5
    refine zq_wg 2 (pc' := 15) (lv' := [some (.ref a0), some (.ref a1), some (.int a2), none]) (st' := [.ref a0, .ref a1]) (h' := h1) rfl ?_
    obtain ⟨v10, e11, hf⟩ := zo_b_s hf
    refine zr_gL rfl rfl (by decide) rfl e11 ?_
    obtain ⟨e15, v13, h12, e14, hf⟩ := zo_v_s hf
    refine zr_cv zq_m30 [.long v10] [] rfl rfl rfl rfl rfl (Nat.le_of_ble_eq_true rfl) (Nat.le_of_ble_eq_true rfl) e15 (zx_Army_manNamed_ok sc d (by omega) e14) ?_
    refine zq_wg 0 (pc' := 21) (lv' := [some (.ref a0), some (.ref a1), some (.int a2), none]) (st' := [.int v13]) (h' := h12) rfl ?_
    refine zq_wg 3 (pc' := 24) (lv' := [some (.ref a0), some (.ref a1), some (.int a2), some (.int v13)]) (st' := [.int (-1 : Int32), .int v13]) (h' := h12) rfl ?_
    refine zr_if (v13 = (-1 : Int32)) 27 33 (st' := []) rfl rfl (fun b16 => ?_) (fun b16 => ?_)
    · have hf := zo_t hf b16
      refine zq_wg 2 (pc' := 29) (lv' := [some (.ref a0), some (.ref a1), some (.int a2), some (.int v13)]) (st' := [.int (2 : Int32), .ref a0]) (h' := h12) rfl ?_
      obtain ⟨e20, v18, h17, e19, hf⟩ := zo_v_s hf
      refine zr_cv zq_m26 [.int (2 : Int32)] [] rfl rfl rfl rfl rfl (Nat.le_of_ble_eq_true rfl) (Nat.le_of_ble_eq_true rfl) e20 (zx_Tape_wrong_ok sc d (by omega) e19) ?_
      refine zq_wg 0 (pc' := 32) (lv' := [some (.ref a0), some (.ref a1), some (.int a2), some (.int v13)]) (st' := [.int v18]) (h' := h17) rfl ?_
      exact zr_rb rfl rfl hf
    · have hf := zo_f hf b16
      refine zq_wg 2 (pc' := 35) (lv' := [some (.ref a0), some (.ref a1), some (.int a2), some (.int v13)]) (st' := [.int a2, .int v13]) (h' := h12) rfl ?_
      refine zr_if (v13 = a2) 38 44 (st' := []) rfl rfl (fun b21 => ?_) (fun b21 => ?_)
      · have hf := zo_t hf b21
        refine zq_wg 2 (pc' := 40) (lv' := [some (.ref a0), some (.ref a1), some (.int a2), some (.int v13)]) (st' := [.int (3 : Int32), .ref a0]) (h' := h12) rfl ?_
        obtain ⟨e25, v23, h22, e24, hf⟩ := zo_v_s hf
        refine zr_cv zq_m26 [.int (3 : Int32)] [] rfl rfl rfl rfl rfl (Nat.le_of_ble_eq_true rfl) (Nat.le_of_ble_eq_true rfl) e25 (zx_Tape_wrong_ok sc d (by omega) e24) ?_
        refine zq_wg 0 (pc' := 43) (lv' := [some (.ref a0), some (.ref a1), some (.int a2), some (.int v13)]) (st' := [.int v23]) (h' := h22) rfl ?_
        exact zr_rb rfl rfl hf
      · have hf := zo_f hf b21
        refine zq_wg 2 (pc' := 46) (lv' := [some (.ref a0), some (.ref a1), some (.int a2), some (.int v13)]) (st' := [.int v13, .ref a0]) (h' := h12) rfl ?_
        obtain ⟨h26, e27, hf⟩ := zo_b_s hf
        refine zr_pI rfl rfl (by decide) rfl rfl e27 ?_
        refine zq_wg 1 (pc' := 50) (lv' := [some (.ref a0), some (.ref a1), some (.int a2), some (.int v13)]) (st' := [.ref a0]) (h' := h26) rfl ?_
        obtain ⟨e31, w29, h28, e30, hf⟩ := zo_v_s hf
        refine zr_cv zq_m20 [] [] rfl rfl rfl rfl rfl (Nat.le_of_ble_eq_true rfl) (Nat.le_of_ble_eq_true rfl) e31 (zx_Tape_step_ok sc d (by omega) e30) ?_
        refine zq_wg 0 (pc' := 53) (lv' := [some (.ref a0), some (.ref a1), some (.int a2), some (.int v13)]) (st' := []) (h' := h28) rfl ?_
        refine zq_wg 1 (pc' := 54) (lv' := [some (.ref a0), some (.ref a1), some (.int a2), some (.int v13)]) (st' := [.int (1 : Int32)]) (h' := h28) rfl ?_
        exact zr_ri rfl rfl rfl hf
set_option maxRecDepth 4000 in
def zx_War_readSell (sc : zX) (a0 : Nat) (a1 : Nat) (a2 : Nat) (h : zH) : Option (Int32 × zH) := zo_c (zx_War_takeMan sc a1 a2 (-1 : Int32) h) (fun v2 h1 => if v2 = 0 then (some ((0 : Int32), h1)) else (zo_b (zo_gI h1 5 a1 5) (fun v5 => zo_b (zo_gR h1 7 a0 2) (fun v7 => zo_b (zo_gI h1 7 a0 0) (fun v9 => zo_c (zx_put sc v7 v9 v5 h1) (fun w12 h11 => zo_c (zx_War_takeMan sc a1 a2 v5 h11) (fun v15 h14 => if v15 = 0 then (some ((0 : Int32), h14)) else (zo_b (zo_gR h14 7 a0 3) (fun v18 => zo_b (zo_gI h14 7 a0 0) (fun v20 => zo_b (zo_gI h14 5 a1 5) (fun v22 => zo_c (zx_put sc v18 v20 v22 h14) (fun w25 h24 => zo_v h24 a1 5 (zx_Tape_takeNumber sc a1 (0 : Int32) (999 : Int32) h24) (fun v28 h27 => zo_b (zo_gR h27 7 a0 4) (fun v31 => zo_b (zo_gI h27 7 a0 0) (fun v33 => zo_b (zo_gI h27 5 a1 5) (fun v35 => zo_c (zx_put sc v31 v33 v35 h27) (fun w38 h37 => zo_rb v28 h37)))))))))))))))))
set_option maxRecDepth 4000 in
theorem zx_War_readSell_ok (sc : zX) (d : Nat) (hd : 3 ≤ d) {a0 : Nat} {a1 : Nat} {a2 : Nat} {h : zH} {ro_ : Int32} {ho_ : zH} (hf : zx_War_readSell sc a0 a1 a2 h = some (ro_, ho_)) : zq_wm sc d 63 [.ref a0, .ref a1, .ref a2] h (some (.int ro_), ho_) := by
  unfold zx_War_readSell at hf
  obtain ⟨d, rfl⟩ : ∃ d', d = d' + 1 := ⟨d - 1, by omega⟩
  have hd : 2 ≤ d := by omega
  show zq_wp sc (d + 1) 63 0 [some (.ref a0), some (.ref a1), some (.ref a2), none, none] [] h _
  refine zq_wg 3 (pc' := 3) (lv' := [some (.ref a0), some (.ref a1), some (.ref a2), none, none]) (st' := [.int (-1 : Int32), .ref a2, .ref a1]) (h' := h) rfl ?_
  obtain ⟨v2, h1, e3, hf⟩ := zo_c_s hf
  refine zr_cs zq_m64 [.ref a1, .ref a2, .int (-1 : Int32)] [] rfl rfl (by decide) rfl rfl rfl (Nat.le_of_ble_eq_true rfl) (Nat.le_of_ble_eq_true rfl) (zx_War_takeMan_ok sc d (by omega) e3) ?_
  refine zq_wg 0 (pc' := 6) (lv' := [some (.ref a0), some (.ref a1), some (.ref a2), none, none]) (st' := [.int v2]) (h' := h1) rfl ?_
  refine zr_if (v2 = 0) 9 11 (st' := []) rfl rfl (fun b4 => ?_) (fun b4 => ?_)
  · have hf := zo_t hf b4
    refine zq_wg 1 (pc' := 10) (lv' := [some (.ref a0), some (.ref a1), some (.ref a2), none, none]) (st' := [.int (0 : Int32)]) (h' := h1) rfl ?_
    exact zr_ri rfl rfl rfl hf
  · have hf := zo_f hf b4
    refine zq_wg 1 (pc' := 12) (lv' := [some (.ref a0), some (.ref a1), some (.ref a2), none, none]) (st' := [.ref a1]) (h' := h1) rfl ?_
    obtain ⟨v5, e6, hf⟩ := zo_b_s hf
    refine zr_gI rfl rfl (by decide) rfl e6 ?_
    refine zq_wg 2 (pc' := 17) (lv' := [some (.ref a0), some (.ref a1), some (.ref a2), some (.int v5), none]) (st' := [.ref a0]) (h' := h1) rfl ?_
    obtain ⟨v7, e8, hf⟩ := zo_b_s hf
    refine zr_gR rfl rfl (by decide) rfl e8 ?_
    refine zq_wg 1 (pc' := 21) (lv' := [some (.ref a0), some (.ref a1), some (.ref a2), some (.int v5), none]) (st' := [.ref a0, .ref v7]) (h' := h1) rfl ?_
    obtain ⟨v9, e10, hf⟩ := zo_b_s hf
    refine zr_gI rfl rfl (by decide) rfl e10 ?_
    refine zq_wg 1 (pc' := 25) (lv' := [some (.ref a0), some (.ref a1), some (.ref a2), some (.int v5), none]) (st' := [.int v5, .int v9, .ref v7]) (h' := h1) rfl ?_
    obtain ⟨w12, h11, e13, hf⟩ := zo_c_s hf
    refine zr_cs zq_m11 [.ref v7, .int v9, .int v5] [] rfl rfl (by decide) rfl rfl rfl (Nat.le_of_ble_eq_true rfl) (Nat.le_of_ble_eq_true rfl) (zx_put_ok sc d (by omega) e13) ?_
    refine zq_wg 0 (pc' := 28) (lv' := [some (.ref a0), some (.ref a1), some (.ref a2), some (.int v5), none]) (st' := []) (h' := h11) rfl ?_
    refine zq_wg 3 (pc' := 31) (lv' := [some (.ref a0), some (.ref a1), some (.ref a2), some (.int v5), none]) (st' := [.int v5, .ref a2, .ref a1]) (h' := h11) rfl ?_
    obtain ⟨v15, h14, e16, hf⟩ := zo_c_s hf
    refine zr_cs zq_m64 [.ref a1, .ref a2, .int v5] [] rfl rfl (by decide) rfl rfl rfl (Nat.le_of_ble_eq_true rfl) (Nat.le_of_ble_eq_true rfl) (zx_War_takeMan_ok sc d (by omega) e16) ?_
    refine zq_wg 0 (pc' := 34) (lv' := [some (.ref a0), some (.ref a1), some (.ref a2), some (.int v5), none]) (st' := [.int v15]) (h' := h14) rfl ?_
    refine zr_if (v15 = 0) 37 39 (st' := []) rfl rfl (fun b17 => ?_) (fun b17 => ?_)
    · have hf := zo_t hf b17
      refine zq_wg 1 (pc' := 38) (lv' := [some (.ref a0), some (.ref a1), some (.ref a2), some (.int v5), none]) (st' := [.int (0 : Int32)]) (h' := h14) rfl ?_
      exact zr_ri rfl rfl rfl hf
    · have hf := zo_f hf b17
      refine zq_wg 1 (pc' := 40) (lv' := [some (.ref a0), some (.ref a1), some (.ref a2), some (.int v5), none]) (st' := [.ref a0]) (h' := h14) rfl ?_
      obtain ⟨v18, e19, hf⟩ := zo_b_s hf
      refine zr_gR rfl rfl (by decide) rfl e19 ?_
      refine zq_wg 1 (pc' := 44) (lv' := [some (.ref a0), some (.ref a1), some (.ref a2), some (.int v5), none]) (st' := [.ref a0, .ref v18]) (h' := h14) rfl ?_
      obtain ⟨v20, e21, hf⟩ := zo_b_s hf
      refine zr_gI rfl rfl (by decide) rfl e21 ?_
      refine zq_wg 1 (pc' := 48) (lv' := [some (.ref a0), some (.ref a1), some (.ref a2), some (.int v5), none]) (st' := [.ref a1, .int v20, .ref v18]) (h' := h14) rfl ?_
      obtain ⟨v22, e23, hf⟩ := zo_b_s hf
      refine zr_gI rfl rfl (by decide) rfl e23 ?_
      obtain ⟨w25, h24, e26, hf⟩ := zo_c_s hf
      refine zr_cs zq_m11 [.ref v18, .int v20, .int v22] [] rfl rfl (by decide) rfl rfl rfl (Nat.le_of_ble_eq_true rfl) (Nat.le_of_ble_eq_true rfl) (zx_put_ok sc d (by omega) e26) ?_
      refine zq_wg 0 (pc' := 54) (lv' := [some (.ref a0), some (.ref a1), some (.ref a2), some (.int v5), none]) (st' := []) (h' := h24) rfl ?_
      refine zq_wg 3 (pc' := 59) (lv' := [some (.ref a0), some (.ref a1), some (.ref a2), some (.int v5), none]) (st' := [.int (999 : Int32), .int (0 : Int32), .ref a1]) (h' := h24) rfl ?_
      obtain ⟨e30, v28, h27, e29, hf⟩ := zo_v_s hf
      refine zr_cv zq_m34 [.int (0 : Int32), .int (999 : Int32)] [] rfl rfl rfl rfl rfl (Nat.le_of_ble_eq_true rfl) (Nat.le_of_ble_eq_true rfl) e30 (zx_Tape_takeNumber_ok sc d (by omega) e29) ?_
      refine zq_wg 0 (pc' := 62) (lv' := [some (.ref a0), some (.ref a1), some (.ref a2), some (.int v5), none]) (st' := [.int v28]) (h' := h27) rfl ?_
      refine zq_wg 2 (pc' := 65) (lv' := [some (.ref a0), some (.ref a1), some (.ref a2), some (.int v5), some (.int v28)]) (st' := [.ref a0]) (h' := h27) rfl ?_
      obtain ⟨v31, e32, hf⟩ := zo_b_s hf
      refine zr_gR rfl rfl (by decide) rfl e32 ?_
      refine zq_wg 1 (pc' := 69) (lv' := [some (.ref a0), some (.ref a1), some (.ref a2), some (.int v5), some (.int v28)]) (st' := [.ref a0, .ref v31]) (h' := h27) rfl ?_
      obtain ⟨v33, e34, hf⟩ := zo_b_s hf
      refine zr_gI rfl rfl (by decide) rfl e34 ?_
      refine zq_wg 1 (pc' := 73) (lv' := [some (.ref a0), some (.ref a1), some (.ref a2), some (.int v5), some (.int v28)]) (st' := [.ref a1, .int v33, .ref v31]) (h' := h27) rfl ?_
      obtain ⟨v35, e36, hf⟩ := zo_b_s hf
      refine zr_gI rfl rfl (by decide) rfl e36 ?_
      obtain ⟨w38, h37, e39, hf⟩ := zo_c_s hf
      refine zr_cs zq_m11 [.ref v31, .int v33, .int v35] [] rfl rfl (by decide) rfl rfl rfl (Nat.le_of_ble_eq_true rfl) (Nat.le_of_ble_eq_true rfl) (zx_put_ok sc d (by omega) e39) ?_
      refine zq_wg 0 (pc' := 79) (lv' := [some (.ref a0), some (.ref a1), some (.ref a2), some (.int v5), some (.int v28)]) (st' := []) (h' := h37) rfl ?_
      refine zq_wg 1 (pc' := 81) (lv' := [some (.ref a0), some (.ref a1), some (.ref a2), some (.int v5), some (.int v28)]) (st' := [.int v28]) (h' := h37) rfl ?_
      exact zr_rb rfl rfl hf
set_option maxRecDepth 4000 in
def zx_War_readRest (sc : zX) (a0 : Nat) (a1 : Nat) (a2 : Nat) (a3 : Int32) (h : zH) : Option (Int32 × zH) := if a3 = (1 : Int32) then (zo_v h a0 7 (zx_War_readSell sc a0 a1 a2 h) (fun v3 h2 => zo_rb v3 h2)) else (zo_l (fun (x6 : Nat) (x7 : Nat) (x8 : Int32) (h9 : zH) => zo_b (zo_gR h9 7 x6 2) (fun v10 => zo_b (zo_gI h9 7 x6 0) (fun v12 => zo_b (zo_gI h9 5 x7 5) (fun v14 => zo_c (zx_put sc v10 v12 v14 h9) (fun w17 h16 => zo_rb x8 h16))))) (fun j53_9 => if a3 = 0 then (zo_v h a1 5 (zx_Tape_takeNumber sc a1 (0 : Int32) (9999 : Int32) h) (fun v21 h20 => j53_9 a0 a1 v21 h20)) else (if a3 = (2 : Int32) then (zo_v h a1 5 (zx_Tape_takeWhich sc a1 (3 : Int32) h) (fun v26 h25 => j53_9 a0 a1 v26 h25)) else (zo_v h a1 5 (zx_Tape_takeNumber sc a1 (1 : Int32) (13 : Int32) h) (fun v30 h29 => j53_9 a0 a1 v30 h29)))))
set_option maxRecDepth 4000 in
theorem zx_War_readRest_ok (sc : zX) (d : Nat) (hd : 4 ≤ d) {a0 : Nat} {a1 : Nat} {a2 : Nat} {a3 : Int32} {h : zH} {ro_ : Int32} {ho_ : zH} (hf : zx_War_readRest sc a0 a1 a2 a3 h = some (ro_, ho_)) : zq_wm sc d 62 [.ref a0, .ref a1, .ref a2, .int a3] h (some (.int ro_), ho_) := by
  unfold zx_War_readRest at hf
  obtain ⟨d, rfl⟩ : ∃ d', d = d' + 1 := ⟨d - 1, by omega⟩
  have hd : 3 ≤ d := by omega
  show zq_wp sc (d + 1) 62 0 [some (.ref a0), some (.ref a1), some (.ref a2), some (.int a3), none] [] h _
  refine zq_wg 2 (pc' := 2) (lv' := [some (.ref a0), some (.ref a1), some (.ref a2), some (.int a3), none]) (st' := [.int (1 : Int32), .int a3]) (h' := h) rfl ?_
  refine zr_if (a3 = (1 : Int32)) 5 12 (st' := []) rfl rfl (fun b1 => ?_) (fun b1 => ?_)
  · have hf := zo_t hf b1
    refine zq_wg 3 (pc' := 8) (lv' := [some (.ref a0), some (.ref a1), some (.ref a2), some (.int a3), none]) (st' := [.ref a2, .ref a1, .ref a0]) (h' := h) rfl ?_
    obtain ⟨e5, v3, h2, e4, hf⟩ := zo_v_s hf
    refine zr_cv zq_m63 [.ref a1, .ref a2] [] rfl rfl rfl rfl rfl (Nat.le_of_ble_eq_true rfl) (Nat.le_of_ble_eq_true rfl) e5 (zx_War_readSell_ok sc d (by omega) e4) ?_
    refine zq_wg 0 (pc' := 11) (lv' := [some (.ref a0), some (.ref a1), some (.ref a2), some (.int a3), none]) (st' := [.int v3]) (h' := h2) rfl ?_
    exact zr_rb rfl rfl hf
  · have hf := zo_f hf b1
    refine zq_wg 1 (pc' := 13) (lv' := [some (.ref a0), some (.ref a1), some (.ref a2), some (.int a3), none]) (st' := [.int a3]) (h' := h) rfl ?_
    obtain ⟨j53_9, hjj53_9, hf⟩ := zo_lj hf
    have kj53_9 : ∀ (x6 : Nat) (x7 : Nat) (x8 : Int32) (h9 : zH), j53_9 x6 x7 x8 h9 = some (ro_, ho_) → zq_wp sc (d + 1) 62 53 [some (.ref x6), some (.ref x7), none, none, some (.int x8)] [] h9 (some (.int ro_), ho_) := by
      intro x6 x7 x8 h9 hf
      rw [hjj53_9] at hf
      refine zq_wg 1 (pc' := 54) (lv' := [some (.ref x6), some (.ref x7), none, none, some (.int x8)]) (st' := [.ref x6]) (h' := h9) rfl ?_
      obtain ⟨v10, e11, hf⟩ := zo_b_s hf
      refine zr_gR rfl rfl (by decide) rfl e11 ?_
      refine zq_wg 1 (pc' := 58) (lv' := [some (.ref x6), some (.ref x7), none, none, some (.int x8)]) (st' := [.ref x6, .ref v10]) (h' := h9) rfl ?_
      obtain ⟨v12, e13, hf⟩ := zo_b_s hf
      refine zr_gI rfl rfl (by decide) rfl e13 ?_
      refine zq_wg 1 (pc' := 62) (lv' := [some (.ref x6), some (.ref x7), none, none, some (.int x8)]) (st' := [.ref x7, .int v12, .ref v10]) (h' := h9) rfl ?_
      obtain ⟨v14, e15, hf⟩ := zo_b_s hf
      refine zr_gI rfl rfl (by decide) rfl e15 ?_
      obtain ⟨w17, h16, e18, hf⟩ := zo_c_s hf
      refine zr_cs zq_m11 [.ref v10, .int v12, .int v14] [] rfl rfl (by decide) rfl rfl rfl (Nat.le_of_ble_eq_true rfl) (Nat.le_of_ble_eq_true rfl) (zx_put_ok sc d (by omega) e18) ?_
      refine zq_wg 0 (pc' := 68) (lv' := [some (.ref x6), some (.ref x7), none, none, some (.int x8)]) (st' := []) (h' := h16) rfl ?_
      refine zq_wg 1 (pc' := 70) (lv' := [some (.ref x6), some (.ref x7), none, none, some (.int x8)]) (st' := [.int x8]) (h' := h16) rfl ?_
      exact zr_rb rfl rfl hf
    refine zr_if (a3 = 0) 16 29 (st' := []) rfl rfl (fun b19 => ?_) (fun b19 => ?_)
    · have hf := zo_t hf b19
      refine zq_wg 3 (pc' := 21) (lv' := [some (.ref a0), some (.ref a1), some (.ref a2), some (.int a3), none]) (st' := [.int (9999 : Int32), .int (0 : Int32), .ref a1]) (h' := h) rfl ?_
      obtain ⟨e23, v21, h20, e22, hf⟩ := zo_v_s hf
      refine zr_cv zq_m34 [.int (0 : Int32), .int (9999 : Int32)] [] rfl rfl rfl rfl rfl (Nat.le_of_ble_eq_true rfl) (Nat.le_of_ble_eq_true rfl) e23 (zx_Tape_takeNumber_ok sc d (by omega) e22) ?_
      refine zq_wg 0 (pc' := 24) (lv' := [some (.ref a0), some (.ref a1), some (.ref a2), some (.int a3), none]) (st' := [.int v21]) (h' := h20) rfl ?_
      refine zq_wg 2 (pc' := 53) (lv' := [some (.ref a0), some (.ref a1), some (.ref a2), some (.int a3), some (.int v21)]) (st' := []) (h' := h20) rfl ?_
      refine zq_fg [some (.ref a0), some (.ref a1), none, none, some (.int v21)] (zq_lvle_s (zq_lvle_s (zq_lvle_n (zq_lvle_n (zq_lvle_s zq_lvle_nil))))) ?_
      exact kj53_9 a0 a1 v21 h20 hf
    · have hf := zo_f hf b19
      refine zq_wg 2 (pc' := 31) (lv' := [some (.ref a0), some (.ref a1), some (.ref a2), some (.int a3), none]) (st' := [.int (2 : Int32), .int a3]) (h' := h) rfl ?_
      refine zr_if (a3 = (2 : Int32)) 34 44 (st' := []) rfl rfl (fun b24 => ?_) (fun b24 => ?_)
      · have hf := zo_t hf b24
        refine zq_wg 2 (pc' := 36) (lv' := [some (.ref a0), some (.ref a1), some (.ref a2), some (.int a3), none]) (st' := [.int (3 : Int32), .ref a1]) (h' := h) rfl ?_
        obtain ⟨e28, v26, h25, e27, hf⟩ := zo_v_s hf
        refine zr_cv zq_m31 [.int (3 : Int32)] [] rfl rfl rfl rfl rfl (Nat.le_of_ble_eq_true rfl) (Nat.le_of_ble_eq_true rfl) e28 (zx_Tape_takeWhich_ok sc d (by omega) e27) ?_
        refine zq_wg 0 (pc' := 39) (lv' := [some (.ref a0), some (.ref a1), some (.ref a2), some (.int a3), none]) (st' := [.int v26]) (h' := h25) rfl ?_
        refine zq_wg 2 (pc' := 53) (lv' := [some (.ref a0), some (.ref a1), some (.ref a2), some (.int a3), some (.int v26)]) (st' := []) (h' := h25) rfl ?_
        refine zq_fg [some (.ref a0), some (.ref a1), none, none, some (.int v26)] (zq_lvle_s (zq_lvle_s (zq_lvle_n (zq_lvle_n (zq_lvle_s zq_lvle_nil))))) ?_
        exact kj53_9 a0 a1 v26 h25 hf
      · have hf := zo_f hf b24
        refine zq_wg 3 (pc' := 48) (lv' := [some (.ref a0), some (.ref a1), some (.ref a2), some (.int a3), none]) (st' := [.int (13 : Int32), .int (1 : Int32), .ref a1]) (h' := h) rfl ?_
        obtain ⟨e32, v30, h29, e31, hf⟩ := zo_v_s hf
        refine zr_cv zq_m34 [.int (1 : Int32), .int (13 : Int32)] [] rfl rfl rfl rfl rfl (Nat.le_of_ble_eq_true rfl) (Nat.le_of_ble_eq_true rfl) e32 (zx_Tape_takeNumber_ok sc d (by omega) e31) ?_
        refine zq_wg 0 (pc' := 51) (lv' := [some (.ref a0), some (.ref a1), some (.ref a2), some (.int a3), none]) (st' := [.int v30]) (h' := h29) rfl ?_
        refine zq_wg 1 (pc' := 53) (lv' := [some (.ref a0), some (.ref a1), some (.ref a2), some (.int a3), some (.int v30)]) (st' := []) (h' := h29) rfl ?_
        refine zq_fg [some (.ref a0), some (.ref a1), none, none, some (.int v30)] (zq_lvle_s (zq_lvle_s (zq_lvle_n (zq_lvle_n (zq_lvle_s zq_lvle_nil))))) ?_
        exact kj53_9 a0 a1 v30 h29 hf
set_option maxRecDepth 4000 in
def zx_War_readLine (sc : zX) (a0 : Nat) (a1 : Nat) (a2 : Nat) (h : zH) : Option (Int32 × zH) := zo_v h a1 5 (zx_Tape_which sc a1 (2 : Int32) h) (fun v2 h1 => if v2 = (-1 : Int32) then (zo_v h1 a1 5 (zx_Tape_wrong sc a1 (1 : Int32) h1) (fun v7 h6 => zo_rb v7 h6)) else (zo_b (zo_gI h1 7 a0 0) (fun v10 => if v10 < (24 : Int32) then (zo_b (zo_gR h1 7 a0 1) (fun v13 => zo_b (zo_gI h1 7 a0 0) (fun v15 => zo_c (zx_put sc v13 v15 v2 h1) (fun w18 h17 => zo_v h17 a1 5 (zx_Tape_step sc a1 h17) (fun w21 h20 => zo_v h20 a0 7 (zx_War_readRest sc a0 a1 a2 v2 h20) (fun v25 h24 => if v25 = 0 then (some ((0 : Int32), h24)) else (zo_b (zo_gI h24 7 a0 0) (fun v29 => zo_b (zo_pI h24 7 a0 0 (v29 + (1 : Int32))) (fun h31 => zo_v h31 a1 5 (zx_Tape_takeSign sc a1 (59 : Int32) h31) (fun v34 h33 => zo_rb v34 h33)))))))))) else (zo_v h1 a1 5 (zx_Tape_wrong sc a1 (5 : Int32) h1) (fun v38 h37 => zo_rb v38 h37)))))
set_option maxRecDepth 4000 in
theorem zx_War_readLine_ok (sc : zX) (d : Nat) (hd : 5 ≤ d) {a0 : Nat} {a1 : Nat} {a2 : Nat} {h : zH} {ro_ : Int32} {ho_ : zH} (hf : zx_War_readLine sc a0 a1 a2 h = some (ro_, ho_)) : zq_wm sc d 61 [.ref a0, .ref a1, .ref a2] h (some (.int ro_), ho_) := by
  unfold zx_War_readLine at hf
  obtain ⟨d, rfl⟩ : ∃ d', d = d' + 1 := ⟨d - 1, by omega⟩
  have hd : 4 ≤ d := by omega
  show zq_wp sc (d + 1) 61 0 [some (.ref a0), some (.ref a1), some (.ref a2), none] [] h _
  refine zq_wg 2 (pc' := 2) (lv' := [some (.ref a0), some (.ref a1), some (.ref a2), none]) (st' := [.int (2 : Int32), .ref a1]) (h' := h) rfl ?_
  obtain ⟨e4, v2, h1, e3, hf⟩ := zo_v_s hf
  refine zr_cv zq_m32 [.int (2 : Int32)] [] rfl rfl rfl rfl rfl (Nat.le_of_ble_eq_true rfl) (Nat.le_of_ble_eq_true rfl) e4 (zx_Tape_which_ok sc d (by omega) e3) ?_
  refine zq_wg 0 (pc' := 5) (lv' := [some (.ref a0), some (.ref a1), some (.ref a2), none]) (st' := [.int v2]) (h' := h1) rfl ?_
  refine zq_wg 3 (pc' := 8) (lv' := [some (.ref a0), some (.ref a1), some (.ref a2), some (.int v2)]) (st' := [.int (-1 : Int32), .int v2]) (h' := h1) rfl ?_
  refine zr_if (v2 = (-1 : Int32)) 11 17 (st' := []) rfl rfl (fun b5 => ?_) (fun b5 => ?_)
  · have hf := zo_t hf b5
    refine zq_wg 2 (pc' := 13) (lv' := [some (.ref a0), some (.ref a1), some (.ref a2), some (.int v2)]) (st' := [.int (1 : Int32), .ref a1]) (h' := h1) rfl ?_
    obtain ⟨e9, v7, h6, e8, hf⟩ := zo_v_s hf
    refine zr_cv zq_m26 [.int (1 : Int32)] [] rfl rfl rfl rfl rfl (Nat.le_of_ble_eq_true rfl) (Nat.le_of_ble_eq_true rfl) e9 (zx_Tape_wrong_ok sc d (by omega) e8) ?_
    refine zq_wg 0 (pc' := 16) (lv' := [some (.ref a0), some (.ref a1), some (.ref a2), some (.int v2)]) (st' := [.int v7]) (h' := h6) rfl ?_
    exact zr_rb rfl rfl hf
  · have hf := zo_f hf b5
    refine zq_wg 1 (pc' := 18) (lv' := [some (.ref a0), some (.ref a1), some (.ref a2), some (.int v2)]) (st' := [.ref a0]) (h' := h1) rfl ?_
    obtain ⟨v10, e11, hf⟩ := zo_b_s hf
    refine zr_gI rfl rfl (by decide) rfl e11 ?_
    refine zq_wg 1 (pc' := 23) (lv' := [some (.ref a0), some (.ref a1), some (.ref a2), some (.int v2)]) (st' := [.int (24 : Int32), .int v10]) (h' := h1) rfl ?_
    refine zr_if (v10 < (24 : Int32)) 32 26 (st' := []) rfl rfl (fun b12 => ?_) (fun b12 => ?_)
    · have hf := zo_t hf b12
      refine zq_wg 1 (pc' := 33) (lv' := [some (.ref a0), some (.ref a1), some (.ref a2), some (.int v2)]) (st' := [.ref a0]) (h' := h1) rfl ?_
      obtain ⟨v13, e14, hf⟩ := zo_b_s hf
      refine zr_gR rfl rfl (by decide) rfl e14 ?_
      refine zq_wg 1 (pc' := 37) (lv' := [some (.ref a0), some (.ref a1), some (.ref a2), some (.int v2)]) (st' := [.ref a0, .ref v13]) (h' := h1) rfl ?_
      obtain ⟨v15, e16, hf⟩ := zo_b_s hf
      refine zr_gI rfl rfl (by decide) rfl e16 ?_
      refine zq_wg 1 (pc' := 41) (lv' := [some (.ref a0), some (.ref a1), some (.ref a2), some (.int v2)]) (st' := [.int v2, .int v15, .ref v13]) (h' := h1) rfl ?_
      obtain ⟨w18, h17, e19, hf⟩ := zo_c_s hf
      refine zr_cs zq_m11 [.ref v13, .int v15, .int v2] [] rfl rfl (by decide) rfl rfl rfl (Nat.le_of_ble_eq_true rfl) (Nat.le_of_ble_eq_true rfl) (zx_put_ok sc d (by omega) e19) ?_
      refine zq_wg 0 (pc' := 44) (lv' := [some (.ref a0), some (.ref a1), some (.ref a2), some (.int v2)]) (st' := []) (h' := h17) rfl ?_
      refine zq_wg 1 (pc' := 45) (lv' := [some (.ref a0), some (.ref a1), some (.ref a2), some (.int v2)]) (st' := [.ref a1]) (h' := h17) rfl ?_
      obtain ⟨e23, w21, h20, e22, hf⟩ := zo_v_s hf
      refine zr_cv zq_m20 [] [] rfl rfl rfl rfl rfl (Nat.le_of_ble_eq_true rfl) (Nat.le_of_ble_eq_true rfl) e23 (zx_Tape_step_ok sc d (by omega) e22) ?_
      refine zq_wg 0 (pc' := 48) (lv' := [some (.ref a0), some (.ref a1), some (.ref a2), some (.int v2)]) (st' := []) (h' := h20) rfl ?_
      refine zq_wg 4 (pc' := 52) (lv' := [some (.ref a0), some (.ref a1), some (.ref a2), some (.int v2)]) (st' := [.int v2, .ref a2, .ref a1, .ref a0]) (h' := h20) rfl ?_
      obtain ⟨e27, v25, h24, e26, hf⟩ := zo_v_s hf
      refine zr_cv zq_m62 [.ref a1, .ref a2, .int v2] [] rfl rfl rfl rfl rfl (Nat.le_of_ble_eq_true rfl) (Nat.le_of_ble_eq_true rfl) e27 (zx_War_readRest_ok sc d (by omega) e26) ?_
      refine zq_wg 0 (pc' := 55) (lv' := [some (.ref a0), some (.ref a1), some (.ref a2), some (.int v2)]) (st' := [.int v25]) (h' := h24) rfl ?_
      refine zr_if (v25 = 0) 58 60 (st' := []) rfl rfl (fun b28 => ?_) (fun b28 => ?_)
      · have hf := zo_t hf b28
        refine zq_wg 1 (pc' := 59) (lv' := [some (.ref a0), some (.ref a1), some (.ref a2), some (.int v2)]) (st' := [.int (0 : Int32)]) (h' := h24) rfl ?_
        exact zr_ri rfl rfl rfl hf
      · have hf := zo_f hf b28
        refine zq_wg 2 (pc' := 62) (lv' := [some (.ref a0), some (.ref a1), some (.ref a2), some (.int v2)]) (st' := [.ref a0, .ref a0]) (h' := h24) rfl ?_
        obtain ⟨v29, e30, hf⟩ := zo_b_s hf
        refine zr_gI rfl rfl (by decide) rfl e30 ?_
        refine zq_wg 2 (pc' := 67) (lv' := [some (.ref a0), some (.ref a1), some (.ref a2), some (.int v2)]) (st' := [.int (v29 + (1 : Int32)), .ref a0]) (h' := h24) rfl ?_
        obtain ⟨h31, e32, hf⟩ := zo_b_s hf
        refine zr_pI rfl rfl (by decide) rfl rfl e32 ?_
        refine zq_wg 2 (pc' := 73) (lv' := [some (.ref a0), some (.ref a1), some (.ref a2), some (.int v2)]) (st' := [.int (59 : Int32), .ref a1]) (h' := h31) rfl ?_
        obtain ⟨e36, v34, h33, e35, hf⟩ := zo_v_s hf
        refine zr_cv zq_m37 [.int (59 : Int32)] [] rfl rfl rfl rfl rfl (Nat.le_of_ble_eq_true rfl) (Nat.le_of_ble_eq_true rfl) e36 (zx_Tape_takeSign_ok sc d (by omega) e35) ?_
        refine zq_wg 0 (pc' := 76) (lv' := [some (.ref a0), some (.ref a1), some (.ref a2), some (.int v2)]) (st' := [.int v34]) (h' := h33) rfl ?_
        exact zr_rb rfl rfl hf
    · have hf := zo_f hf b12
      refine zq_wg 2 (pc' := 28) (lv' := [some (.ref a0), some (.ref a1), some (.ref a2), some (.int v2)]) (st' := [.int (5 : Int32), .ref a1]) (h' := h1) rfl ?_
      obtain ⟨e40, v38, h37, e39, hf⟩ := zo_v_s hf
      refine zr_cv zq_m26 [.int (5 : Int32)] [] rfl rfl rfl rfl rfl (Nat.le_of_ble_eq_true rfl) (Nat.le_of_ble_eq_true rfl) e40 (zx_Tape_wrong_ok sc d (by omega) e39) ?_
      refine zq_wg 0 (pc' := 31) (lv' := [some (.ref a0), some (.ref a1), some (.ref a2), some (.int v2)]) (st' := [.int v38]) (h' := h37) rfl ?_
      exact zr_rb rfl rfl hf
set_option maxRecDepth 4000 in
def zx_War_readFrom_l16 (sc : zX) : Nat → Nat → Nat → Nat → Int32 → Int32 → zH → (Nat → zH → Option (Int32 × zH)) → Option (Int32 × zH)
  | 0, _, _, _, _, _, _, _ => none
  | n + 1, y7, y8, y9, y10, y11, h12, k45 => if y11 ≤ 0 then (k45 y8 h12) else (if y10 = 0 then (k45 y8 h12) else (zo_b (zo_gI h12 5 y8 2) (fun v15 => if v15 = 0 then (k45 y8 h12) else (zo_v h12 y7 7 (zx_War_readLine sc y7 y8 y9 h12) (fun v19 h18 => zx_War_readFrom_l16 sc n y7 y8 y9 v19 (y11 + (-1 : Int32)) h18 k45)))))
set_option maxRecDepth 4000 in
def zx_War_readFrom (sc : zX) (a0 : Nat) (a1 : Nat) (a2 : Nat) (h : zH) : Option (Int32 × zH) := zo_b (zo_pI h 7 a0 0 (0 : Int32)) (fun h1 => zo_v h1 a1 5 (zx_Tape_startReading sc a1 h1) (fun w4 h3 => zx_War_readFrom_l16 sc zo_F a0 a1 a2 (1 : Int32) (1000 : Int32) h3 (fun (x22 : Nat) (h23 : zH) => zo_v h23 x22 5 (zx_Tape_endReading sc x22 h23) (fun v25 h24 => some (v25, h24)))))
set_option maxRecDepth 4000 in
theorem zx_War_readFrom_l16_ok (sc : zX) (d : Nat) (hd : 5 ≤ d) : ∀ (n : Nat) (y7 : Nat) (y8 : Nat) (y9 : Nat) (y10 : Int32) (y11 : Int32) (h12 : zH) (k45 : Nat → zH → Option (Int32 × zH)) (ro_ : Int32) (ho_ : zH), (∀ (z0 : Nat) (hz : zH), k45 z0 hz = some (ro_, ho_) → zq_wp sc (d + 1) 60 45 [none, some (.ref z0), none, none, none] [] hz (some (.int ro_), ho_)) → zx_War_readFrom_l16 sc n y7 y8 y9 y10 y11 h12 k45 = some (ro_, ho_) → zq_wp sc (d + 1) 60 16 [some (.ref y7), some (.ref y8), some (.ref y9), some (.int y10), some (.int y11)] [] h12 (some (.int ro_), ho_) := by
  intro n
  induction n with
  | zero => intro y7 y8 y9 y10 y11 h12 k45 ro_ ho_ hk45 hf; cases hf
  | succ n ih =>
    intro y7 y8 y9 y10 y11 h12 k45 ro_ ho_ hk45 hf
    refine zq_wg 1 (pc' := 18) (lv' := [some (.ref y7), some (.ref y8), some (.ref y9), some (.int y10), some (.int y11)]) (st' := [.int y11]) (h' := h12) rfl ?_
    refine zr_if (y11 ≤ 0) 45 21 (st' := []) rfl rfl (fun b13 => ?_) (fun b13 => ?_)
    · have hf := zo_t hf b13
      refine zq_fg [none, some (.ref y8), none, none, none] (zq_lvle_n (zq_lvle_s (zq_lvle_n (zq_lvle_n (zq_lvle_n zq_lvle_nil))))) ?_
      exact hk45 y8 h12 hf
    · have hf := zo_f hf b13
      refine zq_wg 1 (pc' := 22) (lv' := [some (.ref y7), some (.ref y8), some (.ref y9), some (.int y10), some (.int y11)]) (st' := [.int y10]) (h' := h12) rfl ?_
      refine zr_if (y10 = 0) 45 25 (st' := []) rfl rfl (fun b14 => ?_) (fun b14 => ?_)
      · have hf := zo_t hf b14
        refine zq_fg [none, some (.ref y8), none, none, none] (zq_lvle_n (zq_lvle_s (zq_lvle_n (zq_lvle_n (zq_lvle_n zq_lvle_nil))))) ?_
        exact hk45 y8 h12 hf
      · have hf := zo_f hf b14
        refine zq_wg 1 (pc' := 26) (lv' := [some (.ref y7), some (.ref y8), some (.ref y9), some (.int y10), some (.int y11)]) (st' := [.ref y8]) (h' := h12) rfl ?_
        obtain ⟨v15, e16, hf⟩ := zo_b_s hf
        refine zr_gI rfl rfl (by decide) rfl e16 ?_
        refine zr_if (v15 = 0) 45 32 (st' := []) rfl rfl (fun b17 => ?_) (fun b17 => ?_)
        · have hf := zo_t hf b17
          refine zq_fg [none, some (.ref y8), none, none, none] (zq_lvle_n (zq_lvle_s (zq_lvle_n (zq_lvle_n (zq_lvle_n zq_lvle_nil))))) ?_
          exact hk45 y8 h12 hf
        · have hf := zo_f hf b17
          refine zq_wg 3 (pc' := 35) (lv' := [some (.ref y7), some (.ref y8), some (.ref y9), some (.int y10), some (.int y11)]) (st' := [.ref y9, .ref y8, .ref y7]) (h' := h12) rfl ?_
          obtain ⟨e21, v19, h18, e20, hf⟩ := zo_v_s hf
          refine zr_cv zq_m61 [.ref y8, .ref y9] [] rfl rfl rfl rfl rfl (Nat.le_of_ble_eq_true rfl) (Nat.le_of_ble_eq_true rfl) e21 (zx_War_readLine_ok sc d (by omega) e20) ?_
          refine zq_wg 0 (pc' := 38) (lv' := [some (.ref y7), some (.ref y8), some (.ref y9), some (.int y10), some (.int y11)]) (st' := [.int v19]) (h' := h18) rfl ?_
          refine zq_wg 3 (pc' := 16) (lv' := [some (.ref y7), some (.ref y8), some (.ref y9), some (.int v19), some (.int (y11 + (-1 : Int32)))]) (st' := []) (h' := h18) rfl ?_
          exact ih y7 y8 y9 v19 (y11 + (-1 : Int32)) h18 _ _ _ hk45 hf
set_option maxRecDepth 4000 in
theorem zx_War_readFrom_ok (sc : zX) (d : Nat) (hd : 6 ≤ d) {a0 : Nat} {a1 : Nat} {a2 : Nat} {h : zH} {ro_ : Int32} {ho_ : zH} (hf : zx_War_readFrom sc a0 a1 a2 h = some (ro_, ho_)) : zq_wm sc d 60 [.ref a0, .ref a1, .ref a2] h (some (.int ro_), ho_) := by
  unfold zx_War_readFrom at hf
  obtain ⟨d, rfl⟩ : ∃ d', d = d' + 1 := ⟨d - 1, by omega⟩
  have hd : 5 ≤ d := by omega
  show zq_wp sc (d + 1) 60 0 [some (.ref a0), some (.ref a1), some (.ref a2), none, none] [] h _
  refine zq_wg 2 (pc' := 2) (lv' := [some (.ref a0), some (.ref a1), some (.ref a2), none, none]) (st' := [.int (0 : Int32), .ref a0]) (h' := h) rfl ?_
  obtain ⟨h1, e2, hf⟩ := zo_b_s hf
  refine zr_pI rfl rfl (by decide) rfl rfl e2 ?_
  refine zq_wg 1 (pc' := 6) (lv' := [some (.ref a0), some (.ref a1), some (.ref a2), none, none]) (st' := [.ref a1]) (h' := h1) rfl ?_
  obtain ⟨e6, w4, h3, e5, hf⟩ := zo_v_s hf
  refine zr_cv zq_m19 [] [] rfl rfl rfl rfl rfl (Nat.le_of_ble_eq_true rfl) (Nat.le_of_ble_eq_true rfl) e6 (zx_Tape_startReading_ok sc d (by omega) e5) ?_
  refine zq_wg 0 (pc' := 9) (lv' := [some (.ref a0), some (.ref a1), some (.ref a2), none, none]) (st' := []) (h' := h3) rfl ?_
  refine zq_wg 4 (pc' := 16) (lv' := [some (.ref a0), some (.ref a1), some (.ref a2), some (.int (1 : Int32)), some (.int (1000 : Int32))]) (st' := []) (h' := h3) rfl ?_
  refine zx_War_readFrom_l16_ok sc d hd zo_F a0 a1 a2 (1 : Int32) (1000 : Int32) h3 _ _ _ ?_ hf
  · intro x22 h23 hf
    refine zq_wg 1 (pc' := 46) (lv' := [none, some (.ref x22), none, none, none]) (st' := [.ref x22]) (h' := h23) rfl ?_
    obtain ⟨e27, v25, h24, e26, hf⟩ := zo_v_s hf
    refine zr_cv zq_m57 [] [] rfl rfl rfl rfl rfl (Nat.le_of_ble_eq_true rfl) (Nat.le_of_ble_eq_true rfl) e27 (zx_Tape_endReading_ok sc d (by omega) e26) ?_
    refine zq_wg 0 (pc' := 49) (lv' := [none, some (.ref x22), none, none, none]) (st' := [.int v25]) (h' := h24) rfl ?_
    exact zr_ri rfl rfl rfl hf
set_option maxRecDepth 4000 in
def zx_war (sc : zX) (a0 : Nat) (h : zH) : Option (Int32 × zH) := zo_b (zo_gR h 9 a0 14) (fun v1 => zo_b (zo_gR h 9 a0 0) (fun v3 => zo_b (zo_gR h 9 a0 11) (fun v5 => zo_v h v1 7 (zx_War_readFrom sc v1 v3 v5 h) (fun v8 h7 => if v8 = 0 then (zo_b (zo_gR h7 9 a0 14) (fun v12 => zo_b (zo_gR h7 9 a0 13) (fun v14 => zo_b (zo_pR h7 9 a0 14 (some v14)) (fun h16 => zo_b (zo_pR h16 9 a0 13 (some v12)) (fun h18 => some ((0 : Int32), h18)))))) else (some (v8, h7))))))
set_option maxRecDepth 4000 in
theorem zx_war_ok (sc : zX) (d : Nat) (hd : 7 ≤ d) {a0 : Nat} {h : zH} {ro_ : Int32} {ho_ : zH} (hf : zx_war sc a0 h = some (ro_, ho_)) : zq_wm sc d 59 [.ref a0] h (some (.int ro_), ho_) := by
  unfold zx_war at hf
  obtain ⟨d, rfl⟩ : ∃ d', d = d' + 1 := ⟨d - 1, by omega⟩
  have hd : 6 ≤ d := by omega
  show zq_wp sc (d + 1) 59 0 [some (.ref a0), none, none] [] h _
  refine zq_wg 1 (pc' := 1) (lv' := [some (.ref a0), none, none]) (st' := [.ref a0]) (h' := h) rfl ?_
  obtain ⟨v1, e2, hf⟩ := zo_b_s hf
  refine zr_gR rfl rfl (by decide) rfl e2 ?_
  refine zq_wg 1 (pc' := 5) (lv' := [some (.ref a0), none, none]) (st' := [.ref a0, .ref v1]) (h' := h) rfl ?_
  obtain ⟨v3, e4, hf⟩ := zo_b_s hf
  refine zr_gR rfl rfl (by decide) rfl e4 ?_
  refine zq_wg 1 (pc' := 9) (lv' := [some (.ref a0), none, none]) (st' := [.ref a0, .ref v3, .ref v1]) (h' := h) rfl ?_
  obtain ⟨v5, e6, hf⟩ := zo_b_s hf
  refine zr_gR rfl rfl (by decide) rfl e6 ?_
  obtain ⟨e10, v8, h7, e9, hf⟩ := zo_v_s hf
  refine zr_cv zq_m60 [.ref v3, .ref v5] [] rfl rfl rfl rfl rfl (Nat.le_of_ble_eq_true rfl) (Nat.le_of_ble_eq_true rfl) e10 (zx_War_readFrom_ok sc d (by omega) e9) ?_
  refine zq_wg 0 (pc' := 15) (lv' := [some (.ref a0), none, none]) (st' := [.int v8]) (h' := h7) rfl ?_
  refine zq_wg 2 (pc' := 17) (lv' := [some (.ref a0), some (.int v8), none]) (st' := [.int v8]) (h' := h7) rfl ?_
  refine zr_if (v8 = 0) 22 20 (st' := []) rfl rfl (fun b11 => ?_) (fun b11 => ?_)
  · have hf := zo_t hf b11
    refine zq_wg 1 (pc' := 23) (lv' := [some (.ref a0), some (.int v8), none]) (st' := [.ref a0]) (h' := h7) rfl ?_
    obtain ⟨v12, e13, hf⟩ := zo_b_s hf
    refine zr_gR rfl rfl (by decide) rfl e13 ?_
    refine zq_wg 3 (pc' := 29) (lv' := [some (.ref a0), some (.int v8), some (.ref v12)]) (st' := [.ref a0, .ref a0]) (h' := h7) rfl ?_
    obtain ⟨v14, e15, hf⟩ := zo_b_s hf
    refine zr_gR rfl rfl (by decide) rfl e15 ?_
    obtain ⟨h16, e17, hf⟩ := zo_b_s hf
    refine zr_pR (v := (some v14)) rfl rfl (by decide) rfl rfl e17 ?_
    refine zq_wg 2 (pc' := 37) (lv' := [some (.ref a0), some (.int v8), some (.ref v12)]) (st' := [.ref v12, .ref a0]) (h' := h16) rfl ?_
    obtain ⟨h18, e19, hf⟩ := zo_b_s hf
    refine zr_pR (v := (some v12)) rfl rfl (by decide) rfl rfl e19 ?_
    refine zq_wg 1 (pc' := 41) (lv' := [some (.ref a0), some (.int v8), some (.ref v12)]) (st' := [.int (0 : Int32)]) (h' := h18) rfl ?_
    exact zr_ri rfl rfl rfl hf
  · have hf := zo_f hf b11
    refine zq_wg 1 (pc' := 21) (lv' := [some (.ref a0), some (.int v8), none]) (st' := [.int v8]) (h' := h7) rfl ?_
    exact zr_ri rfl rfl rfl hf
set_option maxRecDepth 4000 in
def zx_Army_hasPost (sc : zX) (a0 : Nat) (a1 : Int32) (h : zH) : Option (Int32 × zH) := if a1 < 0 then (some ((0 : Int32), h)) else (zo_b (zo_gI h 0 a0 0) (fun v2 => if v2 ≤ a1 then (some ((0 : Int32), h)) else (some ((1 : Int32), h))))
set_option maxRecDepth 4000 in
theorem zx_Army_hasPost_ok (sc : zX) (d : Nat) (hd : 0 ≤ d) {a0 : Nat} {a1 : Int32} {h : zH} {ro_ : Int32} {ho_ : zH} (hf : zx_Army_hasPost sc a0 a1 h = some (ro_, ho_)) : zq_wm sc d 66 [.ref a0, .int a1] h (some (.int ro_), ho_) := by
  unfold zx_Army_hasPost at hf
  show zq_wp sc d 66 0 [some (.ref a0), some (.int a1)] [] h _
  refine zq_wg 1 (pc' := 1) (lv' := [some (.ref a0), some (.int a1)]) (st' := [.int a1]) (h' := h) rfl ?_
  refine zr_if (a1 < 0) 16 4 (st' := []) rfl rfl (fun b1 => ?_) (fun b1 => ?_)
  · have hf := zo_t hf b1
    refine zq_wg 1 (pc' := 17) (lv' := [some (.ref a0), some (.int a1)]) (st' := [.int (0 : Int32)]) (h' := h) rfl ?_
    exact zr_ri rfl rfl rfl hf
  · have hf := zo_f hf b1
    refine zq_wg 2 (pc' := 6) (lv' := [some (.ref a0), some (.int a1)]) (st' := [.ref a0, .int a1]) (h' := h) rfl ?_
    obtain ⟨v2, e3, hf⟩ := zo_b_s hf
    refine zr_gI rfl rfl (by decide) rfl e3 ?_
    refine zr_if (v2 ≤ a1) 16 12 (st' := []) rfl rfl (fun b4 => ?_) (fun b4 => ?_)
    · have hf := zo_t hf b4
      refine zq_wg 1 (pc' := 17) (lv' := [some (.ref a0), some (.int a1)]) (st' := [.int (0 : Int32)]) (h' := h) rfl ?_
      exact zr_ri rfl rfl rfl hf
    · have hf := zo_f hf b4
      refine zq_wg 2 (pc' := 17) (lv' := [some (.ref a0), some (.int a1)]) (st' := [.int (1 : Int32)]) (h' := h) rfl ?_
      exact zr_ri rfl rfl rfl hf
set_option maxRecDepth 4000 in
def zx_Army_hasMan (sc : zX) (a0 : Nat) (a1 : Int32) (h : zH) : Option (Int32 × zH) := if a1 < 0 then (some ((0 : Int32), h)) else (zo_b (zo_gI h 0 a0 1) (fun v2 => if v2 ≤ a1 then (some ((0 : Int32), h)) else (some ((1 : Int32), h))))
set_option maxRecDepth 4000 in
theorem zx_Army_hasMan_ok (sc : zX) (d : Nat) (hd : 0 ≤ d) {a0 : Nat} {a1 : Int32} {h : zH} {ro_ : Int32} {ho_ : zH} (hf : zx_Army_hasMan sc a0 a1 h = some (ro_, ho_)) : zq_wm sc d 69 [.ref a0, .int a1] h (some (.int ro_), ho_) := by
  unfold zx_Army_hasMan at hf
  show zq_wp sc d 69 0 [some (.ref a0), some (.int a1)] [] h _
  refine zq_wg 1 (pc' := 1) (lv' := [some (.ref a0), some (.int a1)]) (st' := [.int a1]) (h' := h) rfl ?_
  refine zr_if (a1 < 0) 16 4 (st' := []) rfl rfl (fun b1 => ?_) (fun b1 => ?_)
  · have hf := zo_t hf b1
    refine zq_wg 1 (pc' := 17) (lv' := [some (.ref a0), some (.int a1)]) (st' := [.int (0 : Int32)]) (h' := h) rfl ?_
    exact zr_ri rfl rfl rfl hf
  · have hf := zo_f hf b1
    refine zq_wg 2 (pc' := 6) (lv' := [some (.ref a0), some (.int a1)]) (st' := [.ref a0, .int a1]) (h' := h) rfl ?_
    obtain ⟨v2, e3, hf⟩ := zo_b_s hf
    refine zr_gI rfl rfl (by decide) rfl e3 ?_
    refine zr_if (v2 ≤ a1) 16 12 (st' := []) rfl rfl (fun b4 => ?_) (fun b4 => ?_)
    · have hf := zo_t hf b4
      refine zq_wg 1 (pc' := 17) (lv' := [some (.ref a0), some (.int a1)]) (st' := [.int (0 : Int32)]) (h' := h) rfl ?_
      exact zr_ri rfl rfl rfl hf
    · have hf := zo_f hf b4
      refine zq_wg 2 (pc' := 17) (lv' := [some (.ref a0), some (.int a1)]) (st' := [.int (1 : Int32)]) (h' := h) rfl ?_
      exact zr_ri rfl rfl rfl hf
set_option maxRecDepth 4000 in
def zx_Army_skillOf (sc : zX) (a0 : Nat) (a1 : Int32) (a2 : Int32) (h : zH) : Option (Int32 × zH) := zo_v h a0 0 (zx_Army_hasMan sc a0 a1 h) (fun v2 h1 => if v2 = 0 then (some ((0 : Int32), h1)) else (zo_v h1 a0 0 (zx_Army_hasPost sc a0 a2 h1) (fun v7 h6 => if v7 = 0 then (some ((0 : Int32), h6)) else (zo_b (zo_gR h6 0 a0 15) (fun v11 => zo_c (zx_at sc v11 ((a1 * (6 : Int32)) + a2) h6) (fun v14 h13 => some (v14, h13)))))))
set_option maxRecDepth 4000 in
theorem zx_Army_skillOf_ok (sc : zX) (d : Nat) (hd : 1 ≤ d) {a0 : Nat} {a1 : Int32} {a2 : Int32} {h : zH} {ro_ : Int32} {ho_ : zH} (hf : zx_Army_skillOf sc a0 a1 a2 h = some (ro_, ho_)) : zq_wm sc d 68 [.ref a0, .int a1, .int a2] h (some (.int ro_), ho_) := by
  unfold zx_Army_skillOf at hf
  obtain ⟨d, rfl⟩ : ∃ d', d = d' + 1 := ⟨d - 1, by omega⟩
  have hd : 0 ≤ d := by omega
  show zq_wp sc (d + 1) 68 0 [some (.ref a0), some (.int a1), some (.int a2)] [] h _
  refine zq_wg 2 (pc' := 2) (lv' := [some (.ref a0), some (.int a1), some (.int a2)]) (st' := [.int a1, .ref a0]) (h' := h) rfl ?_
  obtain ⟨e4, v2, h1, e3, hf⟩ := zo_v_s hf
  refine zr_cv zq_m69 [.int a1] [] rfl rfl rfl rfl rfl (Nat.le_of_ble_eq_true rfl) (Nat.le_of_ble_eq_true rfl) e4 (zx_Army_hasMan_ok sc d (by omega) e3) ?_
  refine zq_wg 0 (pc' := 5) (lv' := [some (.ref a0), some (.int a1), some (.int a2)]) (st' := [.int v2]) (h' := h1) rfl ?_
  refine zr_if (v2 = 0) 32 8 (st' := []) rfl rfl (fun b5 => ?_) (fun b5 => ?_)
  · have hf := zo_t hf b5
    refine zq_wg 1 (pc' := 33) (lv' := [some (.ref a0), some (.int a1), some (.int a2)]) (st' := [.int (0 : Int32)]) (h' := h1) rfl ?_
    exact zr_ri rfl rfl rfl hf
  · have hf := zo_f hf b5
    refine zq_wg 2 (pc' := 10) (lv' := [some (.ref a0), some (.int a1), some (.int a2)]) (st' := [.int a2, .ref a0]) (h' := h1) rfl ?_
    obtain ⟨e9, v7, h6, e8, hf⟩ := zo_v_s hf
    refine zr_cv zq_m66 [.int a2] [] rfl rfl rfl rfl rfl (Nat.le_of_ble_eq_true rfl) (Nat.le_of_ble_eq_true rfl) e9 (zx_Army_hasPost_ok sc d (by omega) e8) ?_
    refine zq_wg 0 (pc' := 13) (lv' := [some (.ref a0), some (.int a1), some (.int a2)]) (st' := [.int v7]) (h' := h6) rfl ?_
    refine zr_if (v7 = 0) 32 16 (st' := []) rfl rfl (fun b10 => ?_) (fun b10 => ?_)
    · have hf := zo_t hf b10
      refine zq_wg 1 (pc' := 33) (lv' := [some (.ref a0), some (.int a1), some (.int a2)]) (st' := [.int (0 : Int32)]) (h' := h6) rfl ?_
      exact zr_ri rfl rfl rfl hf
    · have hf := zo_f hf b10
      refine zq_wg 1 (pc' := 17) (lv' := [some (.ref a0), some (.int a1), some (.int a2)]) (st' := [.ref a0]) (h' := h6) rfl ?_
      obtain ⟨v11, e12, hf⟩ := zo_b_s hf
      refine zr_gR rfl rfl (by decide) rfl e12 ?_
      refine zq_wg 5 (pc' := 26) (lv' := [some (.ref a0), some (.int a1), some (.int a2)]) (st' := [.int ((a1 * (6 : Int32)) + a2), .ref v11]) (h' := h6) rfl ?_
      obtain ⟨v14, h13, e15, hf⟩ := zo_c_s hf
      refine zr_cs zq_m12 [.ref v11, .int ((a1 * (6 : Int32)) + a2)] [] rfl rfl (by decide) rfl rfl rfl (Nat.le_of_ble_eq_true rfl) (Nat.le_of_ble_eq_true rfl) (zx_at_ok sc d (by omega) e15) ?_
      refine zq_wg 0 (pc' := 29) (lv' := [some (.ref a0), some (.int a1), some (.int a2)]) (st' := [.int v14]) (h' := h13) rfl ?_
      refine zq_wg 1 (pc' := 33) (lv' := [some (.ref a0), some (.int a1), some (.int a2)]) (st' := [.int v14]) (h' := h13) rfl ?_
      exact zr_ri rfl rfl rfl hf
set_option maxRecDepth 4000 in
def zx_Army_obeying_l4 (sc : zX) : Nat → Nat → Nat → Int32 → Int32 → zH → Option (Int32 × zH)
  | 0, _, _, _, _, _ => none
  | n + 1, y1, y2, y3, y4, h5 => zo_b (zo_gI h5 0 y1 0) (fun v6 => if v6 ≤ y4 then (some (y3, h5)) else (zo_b (zo_gR h5 0 y1 9) (fun v9 => zo_c (zx_at sc v9 y4 h5) (fun v12 h11 => zo_l (fun (x14 : Nat) (x15 : Nat) (x16 : Int32) (x17 : Int32) (x18 : Int32) (h19 : zH) => zo_l (fun (x20 : Nat) (x21 : Nat) (x22 : Int32) (x23 : Int32) (h24 : zH) => zx_Army_obeying_l4 sc n x20 x21 x22 (x23 + (1 : Int32)) h24 ) (fun j84_24 => if x18 = 0 then (j84_24 x14 x15 x16 x17 h19) else (zo_c (zx_at sc x15 x17 h19) (fun v27 h26 => if v27 = (-1 : Int32) then (j84_24 x14 x15 x16 x17 h26) else (j84_24 x14 x15 (x16 ||| ((1 : Int32) <<< (x17 &&& 31))) x17 h26))))) (fun j62_19 => zo_l (fun (x30 : Nat) (x31 : Nat) (x32 : Int32) (x33 : Int32) (h34 : zH) => j62_19 x30 x31 x32 x33 (1 : Int32) h34) (fun j57_34 => if v12 = (-1 : Int32) then (j57_34 y1 y2 y3 y4 h11) else (zo_l (fun (x36 : Nat) (x37 : Nat) (x38 : Int32) (x39 : Int32) (h40 : zH) => j62_19 x36 x37 x38 x39 (0 : Int32) h40) (fun j61_40 => if ((y3 >>> (v12 &&& 31)) &&& (1 : Int32)) = (1 : Int32) then (zo_c (zx_at sc y2 v12 h11) (fun v43 h42 => zo_v h42 y1 0 (zx_Army_skillOf sc y1 v43 v12 h42) (fun v46 h45 => zo_b (zo_gI h45 0 y1 6) (fun v49 => if v46 < v49 then (j61_40 y1 y2 y3 y4 h45) else (j57_34 y1 y2 y3 y4 h45))))) else (j61_40 y1 y2 y3 y4 h11)))))))))
set_option maxRecDepth 4000 in
def zx_Army_obeying (sc : zX) (a0 : Nat) (a1 : Nat) (h : zH) : Option (Int32 × zH) := zx_Army_obeying_l4 sc zo_F a0 a1 (0 : Int32) (0 : Int32) h 
set_option maxRecDepth 4000 in
theorem zx_Army_obeying_l4_ok (sc : zX) (d : Nat) (hd : 1 ≤ d) : ∀ (n : Nat) (y1 : Nat) (y2 : Nat) (y3 : Int32) (y4 : Int32) (h5 : zH) (ro_ : Int32) (ho_ : zH),  zx_Army_obeying_l4 sc n y1 y2 y3 y4 h5  = some (ro_, ho_) → zq_wp sc (d + 1) 67 4 [some (.ref y1), some (.ref y2), some (.int y3), some (.int y4), none, none] [] h5 (some (.int ro_), ho_) := by
  intro n
  induction n with
  | zero => intro y1 y2 y3 y4 h5 ro_ ho_ hf; cases hf
  | succ n ih =>
    intro y1 y2 y3 y4 h5 ro_ ho_ hf
    refine zq_wg 2 (pc' := 6) (lv' := [some (.ref y1), some (.ref y2), some (.int y3), some (.int y4), none, none]) (st' := [.ref y1, .int y4]) (h' := h5) rfl ?_
    obtain ⟨v6, e7, hf⟩ := zo_b_s hf
    refine zr_gI rfl rfl (by decide) rfl e7 ?_
    refine zr_if (v6 ≤ y4) 90 12 (st' := []) rfl rfl (fun b8 => ?_) (fun b8 => ?_)
    · have hf := zo_t hf b8
      refine zq_wg 1 (pc' := 91) (lv' := [some (.ref y1), some (.ref y2), some (.int y3), some (.int y4), none, none]) (st' := [.int y3]) (h' := h5) rfl ?_
      exact zr_ri rfl rfl rfl hf
    · have hf := zo_f hf b8
      refine zq_wg 1 (pc' := 13) (lv' := [some (.ref y1), some (.ref y2), some (.int y3), some (.int y4), none, none]) (st' := [.ref y1]) (h' := h5) rfl ?_
      obtain ⟨v9, e10, hf⟩ := zo_b_s hf
      refine zr_gR rfl rfl (by decide) rfl e10 ?_
      refine zq_wg 1 (pc' := 17) (lv' := [some (.ref y1), some (.ref y2), some (.int y3), some (.int y4), none, none]) (st' := [.int y4, .ref v9]) (h' := h5) rfl ?_
      obtain ⟨v12, h11, e13, hf⟩ := zo_c_s hf
      refine zr_cs zq_m12 [.ref v9, .int y4] [] rfl rfl (by decide) rfl rfl rfl (Nat.le_of_ble_eq_true rfl) (Nat.le_of_ble_eq_true rfl) (zx_at_ok sc d (by omega) e13) ?_
      refine zq_wg 0 (pc' := 20) (lv' := [some (.ref y1), some (.ref y2), some (.int y3), some (.int y4), none, none]) (st' := [.int v12]) (h' := h11) rfl ?_
      refine zq_wg 3 (pc' := 25) (lv' := [some (.ref y1), some (.ref y2), some (.int y3), some (.int y4), some (.int v12), none]) (st' := [.int (-1 : Int32), .int v12]) (h' := h11) rfl ?_
      obtain ⟨j62_19, hjj62_19, hf⟩ := zo_lj hf
      have kj62_19 : ∀ (x14 : Nat) (x15 : Nat) (x16 : Int32) (x17 : Int32) (x18 : Int32) (h19 : zH), j62_19 x14 x15 x16 x17 x18 h19 = some (ro_, ho_) → zq_wp sc (d + 1) 67 62 [some (.ref x14), some (.ref x15), some (.int x16), some (.int x17), none, none] [.int x18] h19 (some (.int ro_), ho_) := by
        intro x14 x15 x16 x17 x18 h19 hf
        rw [hjj62_19] at hf
        refine zq_wg 2 (pc' := 66) (lv' := [some (.ref x14), some (.ref x15), some (.int x16), some (.int x17), none, some (.int x18)]) (st' := [.int x18]) (h' := h19) rfl ?_
        obtain ⟨j84_24, hjj84_24, hf⟩ := zo_lj hf
        have kj84_24 : ∀ (x20 : Nat) (x21 : Nat) (x22 : Int32) (x23 : Int32) (h24 : zH), j84_24 x20 x21 x22 x23 h24 = some (ro_, ho_) → zq_wp sc (d + 1) 67 84 [some (.ref x20), some (.ref x21), some (.int x22), some (.int x23), none, none] [] h24 (some (.int ro_), ho_) := by
          intro x20 x21 x22 x23 h24 hf
          rw [hjj84_24] at hf
          refine zq_wg 2 (pc' := 4) (lv' := [some (.ref x20), some (.ref x21), some (.int x22), some (.int (x23 + (1 : Int32))), none, none]) (st' := []) (h' := h24) rfl ?_
          exact ih x20 x21 x22 (x23 + (1 : Int32)) h24 _ _ hf
        refine zr_if (x18 = 0) 84 69 (st' := []) rfl rfl (fun b25 => ?_) (fun b25 => ?_)
        · have hf := zo_t hf b25
          refine zq_fg [some (.ref x14), some (.ref x15), some (.int x16), some (.int x17), none, none] (zq_lvle_s (zq_lvle_s (zq_lvle_s (zq_lvle_s (zq_lvle_s (zq_lvle_n zq_lvle_nil)))))) ?_
          exact kj84_24 x14 x15 x16 x17 h19 hf
        · have hf := zo_f hf b25
          refine zq_wg 2 (pc' := 71) (lv' := [some (.ref x14), some (.ref x15), some (.int x16), some (.int x17), none, some (.int x18)]) (st' := [.int x17, .ref x15]) (h' := h19) rfl ?_
          obtain ⟨v27, h26, e28, hf⟩ := zo_c_s hf
          refine zr_cs zq_m12 [.ref x15, .int x17] [] rfl rfl (by decide) rfl rfl rfl (Nat.le_of_ble_eq_true rfl) (Nat.le_of_ble_eq_true rfl) (zx_at_ok sc d (by omega) e28) ?_
          refine zq_wg 0 (pc' := 74) (lv' := [some (.ref x14), some (.ref x15), some (.int x16), some (.int x17), none, some (.int x18)]) (st' := [.int v27]) (h' := h26) rfl ?_
          refine zq_wg 1 (pc' := 75) (lv' := [some (.ref x14), some (.ref x15), some (.int x16), some (.int x17), none, some (.int x18)]) (st' := [.int (-1 : Int32), .int v27]) (h' := h26) rfl ?_
          refine zr_if (v27 = (-1 : Int32)) 84 78 (st' := []) rfl rfl (fun b29 => ?_) (fun b29 => ?_)
          · have hf := zo_t hf b29
            refine zq_fg [some (.ref x14), some (.ref x15), some (.int x16), some (.int x17), none, none] (zq_lvle_s (zq_lvle_s (zq_lvle_s (zq_lvle_s (zq_lvle_s (zq_lvle_n zq_lvle_nil)))))) ?_
            exact kj84_24 x14 x15 x16 x17 h26 hf
          · have hf := zo_f hf b29
            refine zq_wg 6 (pc' := 84) (lv' := [some (.ref x14), some (.ref x15), some (.int (x16 ||| ((1 : Int32) <<< (x17 &&& 31)))), some (.int x17), none, some (.int x18)]) (st' := []) (h' := h26) rfl ?_
            refine zq_fg [some (.ref x14), some (.ref x15), some (.int (x16 ||| ((1 : Int32) <<< (x17 &&& 31)))), some (.int x17), none, none] (zq_lvle_s (zq_lvle_s (zq_lvle_s (zq_lvle_s (zq_lvle_s (zq_lvle_n zq_lvle_nil)))))) ?_
            exact kj84_24 x14 x15 (x16 ||| ((1 : Int32) <<< (x17 &&& 31))) x17 h26 hf
      obtain ⟨j57_34, hjj57_34, hf⟩ := zo_lj hf
      have kj57_34 : ∀ (x30 : Nat) (x31 : Nat) (x32 : Int32) (x33 : Int32) (h34 : zH), j57_34 x30 x31 x32 x33 h34 = some (ro_, ho_) → zq_wp sc (d + 1) 67 57 [some (.ref x30), some (.ref x31), some (.int x32), some (.int x33), none, none] [] h34 (some (.int ro_), ho_) := by
        intro x30 x31 x32 x33 h34 hf
        rw [hjj57_34] at hf
        refine zq_wg 2 (pc' := 62) (lv' := [some (.ref x30), some (.ref x31), some (.int x32), some (.int x33), none, none]) (st' := [.int (1 : Int32)]) (h' := h34) rfl ?_
        exact kj62_19 x30 x31 x32 x33 (1 : Int32) h34 hf
      refine zr_if (v12 = (-1 : Int32)) 57 28 (st' := []) rfl rfl (fun b35 => ?_) (fun b35 => ?_)
      · have hf := zo_t hf b35
        refine zq_fg [some (.ref y1), some (.ref y2), some (.int y3), some (.int y4), none, none] (zq_lvle_s (zq_lvle_s (zq_lvle_s (zq_lvle_s (zq_lvle_n (zq_lvle_s zq_lvle_nil)))))) ?_
        exact kj57_34 y1 y2 y3 y4 h11 hf
      · have hf := zo_f hf b35
        refine zq_wg 6 (pc' := 35) (lv' := [some (.ref y1), some (.ref y2), some (.int y3), some (.int y4), some (.int v12), none]) (st' := [.int (1 : Int32), .int ((y3 >>> (v12 &&& 31)) &&& (1 : Int32))]) (h' := h11) rfl ?_
        obtain ⟨j61_40, hjj61_40, hf⟩ := zo_lj hf
        have kj61_40 : ∀ (x36 : Nat) (x37 : Nat) (x38 : Int32) (x39 : Int32) (h40 : zH), j61_40 x36 x37 x38 x39 h40 = some (ro_, ho_) → zq_wp sc (d + 1) 67 61 [some (.ref x36), some (.ref x37), some (.int x38), some (.int x39), none, none] [] h40 (some (.int ro_), ho_) := by
          intro x36 x37 x38 x39 h40 hf
          rw [hjj61_40] at hf
          refine zq_wg 1 (pc' := 62) (lv' := [some (.ref x36), some (.ref x37), some (.int x38), some (.int x39), none, none]) (st' := [.int (0 : Int32)]) (h' := h40) rfl ?_
          exact kj62_19 x36 x37 x38 x39 (0 : Int32) h40 hf
        refine zr_if (((y3 >>> (v12 &&& 31)) &&& (1 : Int32)) = (1 : Int32)) 38 61 (st' := []) rfl rfl (fun b41 => ?_) (fun b41 => ?_)
        · have hf := zo_t hf b41
          refine zq_wg 3 (pc' := 42) (lv' := [some (.ref y1), some (.ref y2), some (.int y3), some (.int y4), some (.int v12), none]) (st' := [.int v12, .ref y2, .ref y1]) (h' := h11) rfl ?_
          obtain ⟨v43, h42, e44, hf⟩ := zo_c_s hf
          refine zr_cs zq_m12 [.ref y2, .int v12] [.ref y1] rfl rfl (by decide) rfl rfl rfl (Nat.le_of_ble_eq_true rfl) (Nat.le_of_ble_eq_true rfl) (zx_at_ok sc d (by omega) e44) ?_
          refine zq_wg 0 (pc' := 45) (lv' := [some (.ref y1), some (.ref y2), some (.int y3), some (.int y4), some (.int v12), none]) (st' := [.int v43, .ref y1]) (h' := h42) rfl ?_
          refine zq_wg 1 (pc' := 47) (lv' := [some (.ref y1), some (.ref y2), some (.int y3), some (.int y4), some (.int v12), none]) (st' := [.int v12, .int v43, .ref y1]) (h' := h42) rfl ?_
          obtain ⟨e48, v46, h45, e47, hf⟩ := zo_v_s hf
          refine zr_cv zq_m68 [.int v43, .int v12] [] rfl rfl rfl rfl rfl (Nat.le_of_ble_eq_true rfl) (Nat.le_of_ble_eq_true rfl) e48 (zx_Army_skillOf_ok sc d (by omega) e47) ?_
          refine zq_wg 0 (pc' := 50) (lv' := [some (.ref y1), some (.ref y2), some (.int y3), some (.int y4), some (.int v12), none]) (st' := [.int v46]) (h' := h45) rfl ?_
          refine zq_wg 1 (pc' := 51) (lv' := [some (.ref y1), some (.ref y2), some (.int y3), some (.int y4), some (.int v12), none]) (st' := [.ref y1, .int v46]) (h' := h45) rfl ?_
          obtain ⟨v49, e50, hf⟩ := zo_b_s hf
          refine zr_gI rfl rfl (by decide) rfl e50 ?_
          refine zr_if (v46 < v49) 61 57 (st' := []) rfl rfl (fun b51 => ?_) (fun b51 => ?_)
          · have hf := zo_t hf b51
            refine zq_fg [some (.ref y1), some (.ref y2), some (.int y3), some (.int y4), none, none] (zq_lvle_s (zq_lvle_s (zq_lvle_s (zq_lvle_s (zq_lvle_n (zq_lvle_s zq_lvle_nil)))))) ?_
            exact kj61_40 y1 y2 y3 y4 h45 hf
          · have hf := zo_f hf b51
            refine zq_fg [some (.ref y1), some (.ref y2), some (.int y3), some (.int y4), none, none] (zq_lvle_s (zq_lvle_s (zq_lvle_s (zq_lvle_s (zq_lvle_n (zq_lvle_s zq_lvle_nil)))))) ?_
            exact kj57_34 y1 y2 y3 y4 h45 hf
        · have hf := zo_f hf b41
          refine zq_fg [some (.ref y1), some (.ref y2), some (.int y3), some (.int y4), none, none] (zq_lvle_s (zq_lvle_s (zq_lvle_s (zq_lvle_s (zq_lvle_n (zq_lvle_s zq_lvle_nil)))))) ?_
          exact kj61_40 y1 y2 y3 y4 h11 hf
set_option maxRecDepth 4000 in
theorem zx_Army_obeying_ok (sc : zX) (d : Nat) (hd : 2 ≤ d) {a0 : Nat} {a1 : Nat} {h : zH} {ro_ : Int32} {ho_ : zH} (hf : zx_Army_obeying sc a0 a1 h = some (ro_, ho_)) : zq_wm sc d 67 [.ref a0, .ref a1] h (some (.int ro_), ho_) := by
  unfold zx_Army_obeying at hf
  obtain ⟨d, rfl⟩ : ∃ d', d = d' + 1 := ⟨d - 1, by omega⟩
  have hd : 1 ≤ d := by omega
  show zq_wp sc (d + 1) 67 0 [some (.ref a0), some (.ref a1), none, none, none, none] [] h _
  refine zq_wg 4 (pc' := 4) (lv' := [some (.ref a0), some (.ref a1), some (.int (0 : Int32)), some (.int (0 : Int32)), none, none]) (st' := []) (h' := h) rfl ?_
  refine zx_Army_obeying_l4_ok sc d hd zo_F a0 a1 (0 : Int32) (0 : Int32) h _ _ hf
set_option maxRecDepth 4000 in
def zx_post (sc : zX) (a0 : Nat) (a1 : Int32) (a2 : Int32) (h : zH) : Option (Int32 × zH) := zo_b (zo_gR h 9 a0 11) (fun v1 => zo_v h v1 0 (zx_Army_hasPost sc v1 a1 h) (fun v4 h3 => if v4 = 0 then (some ((-1 : Int32), h3)) else (if a2 = (0 : Int32) then (zo_b (zo_gR h3 9 a0 11) (fun v9 => zo_b (zo_gR h3 0 v9 7) (fun v11 => zo_c (zx_at sc v11 a1 h3) (fun v14 h13 => some (v14, h13))))) else if a2 = (1 : Int32) then (zo_b (zo_gR h3 9 a0 11) (fun v17 => zo_b (zo_gR h3 0 v17 8) (fun v19 => zo_c (zx_at sc v19 a1 h3) (fun v22 h21 => some (v22, h21))))) else if a2 = (2 : Int32) then (zo_b (zo_gR h3 9 a0 11) (fun v25 => zo_b (zo_gR h3 0 v25 9) (fun v27 => zo_c (zx_at sc v27 a1 h3) (fun v30 h29 => some (v30, h29))))) else if a2 = (3 : Int32) then (zo_b (zo_gR h3 9 a0 1) (fun v33 => zo_b (zo_gR h3 4 v33 0) (fun v35 => zo_c (zx_at sc v35 a1 h3) (fun v38 h37 => some (v38, h37))))) else if a2 = (4 : Int32) then (zo_b (zo_gR h3 9 a0 11) (fun v41 => zo_b (zo_gR h3 9 a0 1) (fun v43 => zo_b (zo_gR h3 4 v43 0) (fun v45 => zo_v h3 v41 0 (zx_Army_obeying sc v41 v45 h3) (fun v48 h47 => some (((v48 >>> (a1 &&& 31)) &&& (1 : Int32)), h47)))))) else (some ((-1 : Int32), h3)))))
set_option maxRecDepth 4000 in
theorem zx_post_ok (sc : zX) (d : Nat) (hd : 3 ≤ d) {a0 : Nat} {a1 : Int32} {a2 : Int32} {h : zH} {ro_ : Int32} {ho_ : zH} (hf : zx_post sc a0 a1 a2 h = some (ro_, ho_)) : zq_wm sc d 65 [.ref a0, .int a1, .int a2] h (some (.int ro_), ho_) := by
  unfold zx_post at hf
  obtain ⟨d, rfl⟩ : ∃ d', d = d' + 1 := ⟨d - 1, by omega⟩
  have hd : 2 ≤ d := by omega
  show zq_wp sc (d + 1) 65 0 [some (.ref a0), some (.int a1), some (.int a2)] [] h _
  refine zq_wg 1 (pc' := 1) (lv' := [some (.ref a0), some (.int a1), some (.int a2)]) (st' := [.ref a0]) (h' := h) rfl ?_
  obtain ⟨v1, e2, hf⟩ := zo_b_s hf
  refine zr_gR rfl rfl (by decide) rfl e2 ?_
  refine zq_wg 1 (pc' := 5) (lv' := [some (.ref a0), some (.int a1), some (.int a2)]) (st' := [.int a1, .ref v1]) (h' := h) rfl ?_
  obtain ⟨e6, v4, h3, e5, hf⟩ := zo_v_s hf
  refine zr_cv zq_m66 [.int a1] [] rfl rfl rfl rfl rfl (Nat.le_of_ble_eq_true rfl) (Nat.le_of_ble_eq_true rfl) e6 (zx_Army_hasPost_ok sc d (by omega) e5) ?_
  refine zq_wg 0 (pc' := 8) (lv' := [some (.ref a0), some (.int a1), some (.int a2)]) (st' := [.int v4]) (h' := h3) rfl ?_
  refine zr_if (v4 = 0) 11 13 (st' := []) rfl rfl (fun b7 => ?_) (fun b7 => ?_)
  · have hf := zo_t hf b7
    refine zq_wg 1 (pc' := 12) (lv' := [some (.ref a0), some (.int a1), some (.int a2)]) (st' := [.int (-1 : Int32)]) (h' := h3) rfl ?_
    exact zr_ri rfl rfl rfl hf
  · have hf := zo_f hf b7
    refine zq_wg 1 (pc' := 14) (lv' := [some (.ref a0), some (.int a1), some (.int a2)]) (st' := [.int a2]) (h' := h3) rfl ?_
    by_cases b8 : a2 = (0 : Int32)
    · have hf := zo_t hf b8
      refine zr_ts (t := 48) rfl (by rw [b8]; rfl) ?_
      refine zq_wg 1 (pc' := 49) (lv' := [some (.ref a0), some (.int a1), some (.int a2)]) (st' := [.ref a0]) (h' := h3) rfl ?_
      obtain ⟨v9, e10, hf⟩ := zo_b_s hf
      refine zr_gR rfl rfl (by decide) rfl e10 ?_
      obtain ⟨v11, e12, hf⟩ := zo_b_s hf
      refine zr_gR rfl rfl (by decide) rfl e12 ?_
      refine zq_wg 1 (pc' := 56) (lv' := [some (.ref a0), some (.int a1), some (.int a2)]) (st' := [.int a1, .ref v11]) (h' := h3) rfl ?_
      obtain ⟨v14, h13, e15, hf⟩ := zo_c_s hf
      refine zr_cs zq_m12 [.ref v11, .int a1] [] rfl rfl (by decide) rfl rfl rfl (Nat.le_of_ble_eq_true rfl) (Nat.le_of_ble_eq_true rfl) (zx_at_ok sc d (by omega) e15) ?_
      refine zq_wg 0 (pc' := 59) (lv' := [some (.ref a0), some (.int a1), some (.int a2)]) (st' := [.int v14]) (h' := h13) rfl ?_
      exact zr_ri rfl rfl rfl hf
    have hf := zo_f hf b8
    by_cases b16 : a2 = (1 : Int32)
    · have hf := zo_t hf b16
      refine zr_ts (t := 60) rfl (by rw [b16]; rfl) ?_
      refine zq_wg 1 (pc' := 61) (lv' := [some (.ref a0), some (.int a1), some (.int a2)]) (st' := [.ref a0]) (h' := h3) rfl ?_
      obtain ⟨v17, e18, hf⟩ := zo_b_s hf
      refine zr_gR rfl rfl (by decide) rfl e18 ?_
      obtain ⟨v19, e20, hf⟩ := zo_b_s hf
      refine zr_gR rfl rfl (by decide) rfl e20 ?_
      refine zq_wg 1 (pc' := 68) (lv' := [some (.ref a0), some (.int a1), some (.int a2)]) (st' := [.int a1, .ref v19]) (h' := h3) rfl ?_
      obtain ⟨v22, h21, e23, hf⟩ := zo_c_s hf
      refine zr_cs zq_m12 [.ref v19, .int a1] [] rfl rfl (by decide) rfl rfl rfl (Nat.le_of_ble_eq_true rfl) (Nat.le_of_ble_eq_true rfl) (zx_at_ok sc d (by omega) e23) ?_
      refine zq_wg 0 (pc' := 71) (lv' := [some (.ref a0), some (.int a1), some (.int a2)]) (st' := [.int v22]) (h' := h21) rfl ?_
      exact zr_ri rfl rfl rfl hf
    have hf := zo_f hf b16
    by_cases b24 : a2 = (2 : Int32)
    · have hf := zo_t hf b24
      refine zr_ts (t := 72) rfl (by rw [b24]; rfl) ?_
      refine zq_wg 1 (pc' := 73) (lv' := [some (.ref a0), some (.int a1), some (.int a2)]) (st' := [.ref a0]) (h' := h3) rfl ?_
      obtain ⟨v25, e26, hf⟩ := zo_b_s hf
      refine zr_gR rfl rfl (by decide) rfl e26 ?_
      obtain ⟨v27, e28, hf⟩ := zo_b_s hf
      refine zr_gR rfl rfl (by decide) rfl e28 ?_
      refine zq_wg 1 (pc' := 80) (lv' := [some (.ref a0), some (.int a1), some (.int a2)]) (st' := [.int a1, .ref v27]) (h' := h3) rfl ?_
      obtain ⟨v30, h29, e31, hf⟩ := zo_c_s hf
      refine zr_cs zq_m12 [.ref v27, .int a1] [] rfl rfl (by decide) rfl rfl rfl (Nat.le_of_ble_eq_true rfl) (Nat.le_of_ble_eq_true rfl) (zx_at_ok sc d (by omega) e31) ?_
      refine zq_wg 0 (pc' := 83) (lv' := [some (.ref a0), some (.int a1), some (.int a2)]) (st' := [.int v30]) (h' := h29) rfl ?_
      exact zr_ri rfl rfl rfl hf
    have hf := zo_f hf b24
    by_cases b32 : a2 = (3 : Int32)
    · have hf := zo_t hf b32
      refine zr_ts (t := 84) rfl (by rw [b32]; rfl) ?_
      refine zq_wg 1 (pc' := 85) (lv' := [some (.ref a0), some (.int a1), some (.int a2)]) (st' := [.ref a0]) (h' := h3) rfl ?_
      obtain ⟨v33, e34, hf⟩ := zo_b_s hf
      refine zr_gR rfl rfl (by decide) rfl e34 ?_
      obtain ⟨v35, e36, hf⟩ := zo_b_s hf
      refine zr_gR rfl rfl (by decide) rfl e36 ?_
      refine zq_wg 1 (pc' := 92) (lv' := [some (.ref a0), some (.int a1), some (.int a2)]) (st' := [.int a1, .ref v35]) (h' := h3) rfl ?_
      obtain ⟨v38, h37, e39, hf⟩ := zo_c_s hf
      refine zr_cs zq_m12 [.ref v35, .int a1] [] rfl rfl (by decide) rfl rfl rfl (Nat.le_of_ble_eq_true rfl) (Nat.le_of_ble_eq_true rfl) (zx_at_ok sc d (by omega) e39) ?_
      refine zq_wg 0 (pc' := 95) (lv' := [some (.ref a0), some (.int a1), some (.int a2)]) (st' := [.int v38]) (h' := h37) rfl ?_
      exact zr_ri rfl rfl rfl hf
    have hf := zo_f hf b32
    by_cases b40 : a2 = (4 : Int32)
    · have hf := zo_t hf b40
      refine zr_ts (t := 96) rfl (by rw [b40]; rfl) ?_
      refine zq_wg 1 (pc' := 97) (lv' := [some (.ref a0), some (.int a1), some (.int a2)]) (st' := [.ref a0]) (h' := h3) rfl ?_
      obtain ⟨v41, e42, hf⟩ := zo_b_s hf
      refine zr_gR rfl rfl (by decide) rfl e42 ?_
      refine zq_wg 1 (pc' := 101) (lv' := [some (.ref a0), some (.int a1), some (.int a2)]) (st' := [.ref a0, .ref v41]) (h' := h3) rfl ?_
      obtain ⟨v43, e44, hf⟩ := zo_b_s hf
      refine zr_gR rfl rfl (by decide) rfl e44 ?_
      obtain ⟨v45, e46, hf⟩ := zo_b_s hf
      refine zr_gR rfl rfl (by decide) rfl e46 ?_
      obtain ⟨e50, v48, h47, e49, hf⟩ := zo_v_s hf
      refine zr_cv zq_m67 [.ref v45] [] rfl rfl rfl rfl rfl (Nat.le_of_ble_eq_true rfl) (Nat.le_of_ble_eq_true rfl) e50 (zx_Army_obeying_ok sc d (by omega) e49) ?_
      refine zq_wg 0 (pc' := 110) (lv' := [some (.ref a0), some (.int a1), some (.int a2)]) (st' := [.int v48]) (h' := h47) rfl ?_
      refine zq_wg 4 (pc' := 114) (lv' := [some (.ref a0), some (.int a1), some (.int a2)]) (st' := [.int ((v48 >>> (a1 &&& 31)) &&& (1 : Int32))]) (h' := h47) rfl ?_
      exact zr_ri rfl rfl rfl hf
    have hf := zo_f hf b40
    refine zr_ts (t := 115) rfl (by unfold zo_ts; rw [if_pos (by have eb8 := zo_ne b8 (z := 0) (by decide); have eb16 := zo_ne b16 (z := 1) (by decide); have eb24 := zo_ne b24 (z := 2) (by decide); have eb32 := zo_ne b32 (z := 3) (by decide); have eb40 := zo_ne b40 (z := 4) (by decide); omega)]; rfl) ?_
    refine zq_wg 1 (pc' := 116) (lv' := [some (.ref a0), some (.int a1), some (.int a2)]) (st' := [.int (-1 : Int32)]) (h' := h3) rfl ?_
    exact zr_ri rfl rfl rfl hf
set_option maxRecDepth 4000 in
def zx_State_postOf_l2 (sc : zX) : Nat → Nat → Int32 → Int32 → zH → Option (Int32 × zH)
  | 0, _, _, _, _ => none
  | n + 1, y1, y2, y3, h4 => if (6 : Int32) ≤ y3 then (some ((-1 : Int32), h4)) else (zo_b (zo_gR h4 4 y1 0) (fun v6 => zo_c (zx_at sc v6 y3 h4) (fun v9 h8 => if v9 = y2 then (some (y3, h8)) else (zx_State_postOf_l2 sc n y1 y2 (y3 + (1 : Int32)) h8 ))))
set_option maxRecDepth 4000 in
def zx_State_postOf (sc : zX) (a0 : Nat) (a1 : Int32) (h : zH) : Option (Int32 × zH) := zx_State_postOf_l2 sc zo_F a0 a1 (0 : Int32) h 
set_option maxRecDepth 4000 in
theorem zx_State_postOf_l2_ok (sc : zX) (d : Nat) (hd : 0 ≤ d) : ∀ (n : Nat) (y1 : Nat) (y2 : Int32) (y3 : Int32) (h4 : zH) (ro_ : Int32) (ho_ : zH),  zx_State_postOf_l2 sc n y1 y2 y3 h4  = some (ro_, ho_) → zq_wp sc (d + 1) 71 2 [some (.ref y1), some (.int y2), some (.int y3)] [] h4 (some (.int ro_), ho_) := by
  intro n
  induction n with
  | zero => intro y1 y2 y3 h4 ro_ ho_ hf; cases hf
  | succ n ih =>
    intro y1 y2 y3 h4 ro_ ho_ hf
    refine zq_wg 2 (pc' := 5) (lv' := [some (.ref y1), some (.int y2), some (.int y3)]) (st' := [.int (6 : Int32), .int y3]) (h' := h4) rfl ?_
    refine zr_if ((6 : Int32) ≤ y3) 28 8 (st' := []) rfl rfl (fun b5 => ?_) (fun b5 => ?_)
    · have hf := zo_t hf b5
      refine zq_wg 1 (pc' := 29) (lv' := [some (.ref y1), some (.int y2), some (.int y3)]) (st' := [.int (-1 : Int32)]) (h' := h4) rfl ?_
      exact zr_ri rfl rfl rfl hf
    · have hf := zo_f hf b5
      refine zq_wg 1 (pc' := 9) (lv' := [some (.ref y1), some (.int y2), some (.int y3)]) (st' := [.ref y1]) (h' := h4) rfl ?_
      obtain ⟨v6, e7, hf⟩ := zo_b_s hf
      refine zr_gR rfl rfl (by decide) rfl e7 ?_
      refine zq_wg 1 (pc' := 13) (lv' := [some (.ref y1), some (.int y2), some (.int y3)]) (st' := [.int y3, .ref v6]) (h' := h4) rfl ?_
      obtain ⟨v9, h8, e10, hf⟩ := zo_c_s hf
      refine zr_cs zq_m12 [.ref v6, .int y3] [] rfl rfl (by decide) rfl rfl rfl (Nat.le_of_ble_eq_true rfl) (Nat.le_of_ble_eq_true rfl) (zx_at_ok sc d (by omega) e10) ?_
      refine zq_wg 0 (pc' := 16) (lv' := [some (.ref y1), some (.int y2), some (.int y3)]) (st' := [.int v9]) (h' := h8) rfl ?_
      refine zq_wg 1 (pc' := 17) (lv' := [some (.ref y1), some (.int y2), some (.int y3)]) (st' := [.int y2, .int v9]) (h' := h8) rfl ?_
      refine zr_if (v9 = y2) 20 22 (st' := []) rfl rfl (fun b11 => ?_) (fun b11 => ?_)
      · have hf := zo_t hf b11
        refine zq_wg 1 (pc' := 21) (lv' := [some (.ref y1), some (.int y2), some (.int y3)]) (st' := [.int y3]) (h' := h8) rfl ?_
        exact zr_ri rfl rfl rfl hf
      · have hf := zo_f hf b11
        refine zq_wg 2 (pc' := 2) (lv' := [some (.ref y1), some (.int y2), some (.int (y3 + (1 : Int32)))]) (st' := []) (h' := h8) rfl ?_
        exact ih y1 y2 (y3 + (1 : Int32)) h8 _ _ hf
set_option maxRecDepth 4000 in
theorem zx_State_postOf_ok (sc : zX) (d : Nat) (hd : 1 ≤ d) {a0 : Nat} {a1 : Int32} {h : zH} {ro_ : Int32} {ho_ : zH} (hf : zx_State_postOf sc a0 a1 h = some (ro_, ho_)) : zq_wm sc d 71 [.ref a0, .int a1] h (some (.int ro_), ho_) := by
  unfold zx_State_postOf at hf
  obtain ⟨d, rfl⟩ : ∃ d', d = d' + 1 := ⟨d - 1, by omega⟩
  have hd : 0 ≤ d := by omega
  show zq_wp sc (d + 1) 71 0 [some (.ref a0), some (.int a1), none] [] h _
  refine zq_wg 2 (pc' := 2) (lv' := [some (.ref a0), some (.int a1), some (.int (0 : Int32))]) (st' := []) (h' := h) rfl ?_
  refine zx_State_postOf_l2_ok sc d hd zo_F a0 a1 (0 : Int32) h _ _ hf
set_option maxRecDepth 4000 in
def zx_man (sc : zX) (a0 : Nat) (a1 : Int32) (a2 : Int32) (h : zH) : Option (Int32 × zH) := zo_b (zo_gR h 9 a0 11) (fun v1 => zo_v h v1 0 (zx_Army_hasMan sc v1 a1 h) (fun v4 h3 => if v4 = 0 then (some ((-1 : Int32), h3)) else (if a2 = (0 : Int32) then (zo_b (zo_gR h3 9 a0 11) (fun v9 => zo_b (zo_gR h3 0 v9 10) (fun v11 => zo_c (zx_at sc v11 a1 h3) (fun v14 h13 => some (v14, h13))))) else if a2 = (1 : Int32) then (zo_b (zo_gR h3 9 a0 11) (fun v17 => zo_b (zo_gR h3 0 v17 11) (fun v19 => zo_c (zx_at sc v19 a1 h3) (fun v22 h21 => some (v22, h21))))) else if a2 = (2 : Int32) then (zo_b (zo_gR h3 9 a0 1) (fun v25 => zo_b (zo_gR h3 4 v25 1) (fun v27 => zo_c (zx_at sc v27 a1 h3) (fun v30 h29 => some (v30, h29))))) else if a2 = (3 : Int32) then (zo_b (zo_gR h3 9 a0 1) (fun v33 => zo_v h3 v33 4 (zx_State_postOf sc v33 a1 h3) (fun v36 h35 => some (v36, h35)))) else (some ((-1 : Int32), h3)))))
set_option maxRecDepth 4000 in
theorem zx_man_ok (sc : zX) (d : Nat) (hd : 2 ≤ d) {a0 : Nat} {a1 : Int32} {a2 : Int32} {h : zH} {ro_ : Int32} {ho_ : zH} (hf : zx_man sc a0 a1 a2 h = some (ro_, ho_)) : zq_wm sc d 70 [.ref a0, .int a1, .int a2] h (some (.int ro_), ho_) := by
  unfold zx_man at hf
  obtain ⟨d, rfl⟩ : ∃ d', d = d' + 1 := ⟨d - 1, by omega⟩
  have hd : 1 ≤ d := by omega
  show zq_wp sc (d + 1) 70 0 [some (.ref a0), some (.int a1), some (.int a2)] [] h _
  refine zq_wg 1 (pc' := 1) (lv' := [some (.ref a0), some (.int a1), some (.int a2)]) (st' := [.ref a0]) (h' := h) rfl ?_
  obtain ⟨v1, e2, hf⟩ := zo_b_s hf
  refine zr_gR rfl rfl (by decide) rfl e2 ?_
  refine zq_wg 1 (pc' := 5) (lv' := [some (.ref a0), some (.int a1), some (.int a2)]) (st' := [.int a1, .ref v1]) (h' := h) rfl ?_
  obtain ⟨e6, v4, h3, e5, hf⟩ := zo_v_s hf
  refine zr_cv zq_m69 [.int a1] [] rfl rfl rfl rfl rfl (Nat.le_of_ble_eq_true rfl) (Nat.le_of_ble_eq_true rfl) e6 (zx_Army_hasMan_ok sc d (by omega) e5) ?_
  refine zq_wg 0 (pc' := 8) (lv' := [some (.ref a0), some (.int a1), some (.int a2)]) (st' := [.int v4]) (h' := h3) rfl ?_
  refine zr_if (v4 = 0) 11 13 (st' := []) rfl rfl (fun b7 => ?_) (fun b7 => ?_)
  · have hf := zo_t hf b7
    refine zq_wg 1 (pc' := 12) (lv' := [some (.ref a0), some (.int a1), some (.int a2)]) (st' := [.int (-1 : Int32)]) (h' := h3) rfl ?_
    exact zr_ri rfl rfl rfl hf
  · have hf := zo_f hf b7
    refine zq_wg 1 (pc' := 14) (lv' := [some (.ref a0), some (.int a1), some (.int a2)]) (st' := [.int a2]) (h' := h3) rfl ?_
    by_cases b8 : a2 = (0 : Int32)
    · have hf := zo_t hf b8
      refine zr_ts (t := 44) rfl (by rw [b8]; rfl) ?_
      refine zq_wg 1 (pc' := 45) (lv' := [some (.ref a0), some (.int a1), some (.int a2)]) (st' := [.ref a0]) (h' := h3) rfl ?_
      obtain ⟨v9, e10, hf⟩ := zo_b_s hf
      refine zr_gR rfl rfl (by decide) rfl e10 ?_
      obtain ⟨v11, e12, hf⟩ := zo_b_s hf
      refine zr_gR rfl rfl (by decide) rfl e12 ?_
      refine zq_wg 1 (pc' := 52) (lv' := [some (.ref a0), some (.int a1), some (.int a2)]) (st' := [.int a1, .ref v11]) (h' := h3) rfl ?_
      obtain ⟨v14, h13, e15, hf⟩ := zo_c_s hf
      refine zr_cs zq_m12 [.ref v11, .int a1] [] rfl rfl (by decide) rfl rfl rfl (Nat.le_of_ble_eq_true rfl) (Nat.le_of_ble_eq_true rfl) (zx_at_ok sc d (by omega) e15) ?_
      refine zq_wg 0 (pc' := 55) (lv' := [some (.ref a0), some (.int a1), some (.int a2)]) (st' := [.int v14]) (h' := h13) rfl ?_
      exact zr_ri rfl rfl rfl hf
    have hf := zo_f hf b8
    by_cases b16 : a2 = (1 : Int32)
    · have hf := zo_t hf b16
      refine zr_ts (t := 56) rfl (by rw [b16]; rfl) ?_
      refine zq_wg 1 (pc' := 57) (lv' := [some (.ref a0), some (.int a1), some (.int a2)]) (st' := [.ref a0]) (h' := h3) rfl ?_
      obtain ⟨v17, e18, hf⟩ := zo_b_s hf
      refine zr_gR rfl rfl (by decide) rfl e18 ?_
      obtain ⟨v19, e20, hf⟩ := zo_b_s hf
      refine zr_gR rfl rfl (by decide) rfl e20 ?_
      refine zq_wg 1 (pc' := 64) (lv' := [some (.ref a0), some (.int a1), some (.int a2)]) (st' := [.int a1, .ref v19]) (h' := h3) rfl ?_
      obtain ⟨v22, h21, e23, hf⟩ := zo_c_s hf
      refine zr_cs zq_m12 [.ref v19, .int a1] [] rfl rfl (by decide) rfl rfl rfl (Nat.le_of_ble_eq_true rfl) (Nat.le_of_ble_eq_true rfl) (zx_at_ok sc d (by omega) e23) ?_
      refine zq_wg 0 (pc' := 67) (lv' := [some (.ref a0), some (.int a1), some (.int a2)]) (st' := [.int v22]) (h' := h21) rfl ?_
      exact zr_ri rfl rfl rfl hf
    have hf := zo_f hf b16
    by_cases b24 : a2 = (2 : Int32)
    · have hf := zo_t hf b24
      refine zr_ts (t := 68) rfl (by rw [b24]; rfl) ?_
      refine zq_wg 1 (pc' := 69) (lv' := [some (.ref a0), some (.int a1), some (.int a2)]) (st' := [.ref a0]) (h' := h3) rfl ?_
      obtain ⟨v25, e26, hf⟩ := zo_b_s hf
      refine zr_gR rfl rfl (by decide) rfl e26 ?_
      obtain ⟨v27, e28, hf⟩ := zo_b_s hf
      refine zr_gR rfl rfl (by decide) rfl e28 ?_
      refine zq_wg 1 (pc' := 76) (lv' := [some (.ref a0), some (.int a1), some (.int a2)]) (st' := [.int a1, .ref v27]) (h' := h3) rfl ?_
      obtain ⟨v30, h29, e31, hf⟩ := zo_c_s hf
      refine zr_cs zq_m12 [.ref v27, .int a1] [] rfl rfl (by decide) rfl rfl rfl (Nat.le_of_ble_eq_true rfl) (Nat.le_of_ble_eq_true rfl) (zx_at_ok sc d (by omega) e31) ?_
      refine zq_wg 0 (pc' := 79) (lv' := [some (.ref a0), some (.int a1), some (.int a2)]) (st' := [.int v30]) (h' := h29) rfl ?_
      exact zr_ri rfl rfl rfl hf
    have hf := zo_f hf b24
    by_cases b32 : a2 = (3 : Int32)
    · have hf := zo_t hf b32
      refine zr_ts (t := 80) rfl (by rw [b32]; rfl) ?_
      refine zq_wg 1 (pc' := 81) (lv' := [some (.ref a0), some (.int a1), some (.int a2)]) (st' := [.ref a0]) (h' := h3) rfl ?_
      obtain ⟨v33, e34, hf⟩ := zo_b_s hf
      refine zr_gR rfl rfl (by decide) rfl e34 ?_
      refine zq_wg 1 (pc' := 85) (lv' := [some (.ref a0), some (.int a1), some (.int a2)]) (st' := [.int a1, .ref v33]) (h' := h3) rfl ?_
      obtain ⟨e38, v36, h35, e37, hf⟩ := zo_v_s hf
      refine zr_cv zq_m71 [.int a1] [] rfl rfl rfl rfl rfl (Nat.le_of_ble_eq_true rfl) (Nat.le_of_ble_eq_true rfl) e38 (zx_State_postOf_ok sc d (by omega) e37) ?_
      refine zq_wg 0 (pc' := 88) (lv' := [some (.ref a0), some (.int a1), some (.int a2)]) (st' := [.int v36]) (h' := h35) rfl ?_
      exact zr_ri rfl rfl rfl hf
    have hf := zo_f hf b32
    refine zr_ts (t := 89) rfl (by unfold zo_ts; rw [if_pos (by have eb8 := zo_ne b8 (z := 0) (by decide); have eb16 := zo_ne b16 (z := 1) (by decide); have eb24 := zo_ne b24 (z := 2) (by decide); have eb32 := zo_ne b32 (z := 3) (by decide); omega)]; rfl) ?_
    refine zq_wg 1 (pc' := 90) (lv' := [some (.ref a0), some (.int a1), some (.int a2)]) (st' := [.int (-1 : Int32)]) (h' := h3) rfl ?_
    exact zr_ri rfl rfl rfl hf
