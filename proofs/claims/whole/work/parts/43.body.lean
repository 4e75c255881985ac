/-! rests up to its throw; the law's own body, once round; printed by wip/whole/gen43.py -/
def zy_sp (_ : Nat) (i : Instr) : Bool := match i with
  | .new _ => true
  | .ireturn => true
  | _ => false
def zy_ph (ro : Option Int32) (ho : zH) (c : zC) : Prop := c.2.2.2 = ho ∧ match ro with
  | some r => c.2.2.1 = [.int r] ∧ zq_code 142 c.1 = some (.ireturn, 1)
  | none => c.2.2.1 = [] ∧ (c.1 = 27 ∨ c.1 = 146)
def zx_rests_l91 (sc : zX) : Nat → Nat → Int32 → Int32 → Int32 → Int32 → Int32 → Int32 → Int32 → zH → (Nat → Int32 → Int32 → Int32 → Int32 → Int32 → Int32 → Int32 → zH → Option (Option Int32 × zH)) → Option (Option Int32 × zH)
  | 0, _, _, _, _, _, _, _, _, _, _ => none
  | n + 1, y40, y41, y42, y43, y44, y45, y46, y47, h48, k141 => if (4 : Int32) ≤ y47 then (k141 y40 y41 y42 y43 y44 y45 y46 y47 h48) else (zo_l (fun (x50 : Nat) (x51 : Int32) (x52 : Int32) (x53 : Int32) (x54 : Int32) (x55 : Int32) (x56 : Int32) (x57 : Int32) (h58 : zH) => zx_rests_l91 sc n x50 x51 x52 x53 x54 x55 x56 (x57 + (1 : Int32)) h58 k141) (fun j135_58 => if ((y44 >>> ((y47 >>> ((1 : Int32) &&& 31)) &&& 31)) &&& (1 : Int32)) = (1 : Int32) then (if ((y45 >>> ((y47 &&& (1 : Int32)) &&& 31)) &&& (1 : Int32)) = (1 : Int32) then (if y46 = y43 then (some (some y47, h48)) else (j135_58 y40 y41 y42 y43 y44 y45 (y46 + (1 : Int32)) y47 h48)) else (j135_58 y40 y41 y42 y43 y44 y45 y46 y47 h48)) else (j135_58 y40 y41 y42 y43 y44 y45 y46 y47 h48)))
def zx_rests (sc : zX) (a0 : Nat) (a1 : Int32) (a2 : Int32) (a3 : Int32) (h : zH) : Option (Option Int32 × zH) := zo_c (zx_within sc a1 (0 : Int32) (999 : Int32) h) (fun v2 h1 => if v2 = 0 then (some (none, h1)) else (zo_c (zx_within sc a2 (0 : Int32) (999 : Int32) h1) (fun v6 h5 => if v6 = 0 then (some (none, h5)) else (if (-1 : Int32) ≤ a3 then (zo_b (zo_gR h5 9 a0 11) (fun v10 => zo_v h5 v10 0 (zx_Army_move sc v10 a1 a2 (0 : Int32) h5) (fun v13 h12 => zo_b (zo_gR h12 9 a0 11) (fun v16 => zo_v h12 v16 0 (zx_Army_move sc v16 a1 a2 (1 : Int32) h12) (fun v19 h18 => zo_c (zx_bestOf sc v13 v19 h18) (fun v23 h22 => zo_b (zo_gR h22 9 a0 11) (fun v25 => zo_v h22 v25 0 (zx_Army_move sc v25 a2 a1 (0 : Int32) h22) (fun v28 h27 => zo_b (zo_gR h27 9 a0 11) (fun v31 => zo_v h27 v31 0 (zx_Army_move sc v31 a2 a1 (1 : Int32) h27) (fun v34 h33 => zo_c (zx_bestOf sc v28 v34 h33) (fun v38 h37 => zx_rests_l91 sc zo_F a0 a1 a2 a3 v23 v38 (0 : Int32) (0 : Int32) h37 (fun (x62 : Nat) (x63 : Int32) (x64 : Int32) (x65 : Int32) (x66 : Int32) (x67 : Int32) (x68 : Int32) (x69 : Int32) (h70 : zH) => if x65 = (-1 : Int32) then (some (some x68, h70)) else (some (none, h70)))))))))))))) else (some (none, h5))))))
set_option maxRecDepth 4000 in
theorem zx_rests_l91_ok (sc : zX) (d : Nat) (hd : 2 ≤ d) : ∀ (n : Nat) (y40 : Nat) (y41 : Int32) (y42 : Int32) (y43 : Int32) (y44 : Int32) (y45 : Int32) (y46 : Int32) (y47 : Int32) (h48 : zH) (k141 : Nat → Int32 → Int32 → Int32 → Int32 → Int32 → Int32 → Int32 → zH → Option (Option Int32 × zH)) (ro_ : Option Int32) (ho_ : zH), (∀ (z0 : Nat) (z1 : Int32) (z2 : Int32) (z3 : Int32) (z4 : Int32) (z5 : Int32) (z6 : Int32) (z7 : Int32) (hz : zH), k141 z0 z1 z2 z3 z4 z5 z6 z7 hz = some (ro_, ho_) → zq_wq sc zy_sp (d + 1) 142 141 [some (.ref z0), some (.int z1), some (.int z2), some (.int z3), some (.int z4), some (.int z5), some (.int z6), some (.int z7)] [] hz (zy_ph ro_ ho_)) → zx_rests_l91 sc n y40 y41 y42 y43 y44 y45 y46 y47 h48 k141 = some (ro_, ho_) → zq_wq sc zy_sp (d + 1) 142 91 [some (.ref y40), some (.int y41), some (.int y42), some (.int y43), some (.int y44), some (.int y45), some (.int y46), some (.int y47)] [] h48 (zy_ph ro_ ho_) := by
  intro n
  induction n with
  | zero => intro y40 y41 y42 y43 y44 y45 y46 y47 h48 k141 ro_ ho_ hk141 hf; cases hf
  | succ n ih =>
    intro y40 y41 y42 y43 y44 y45 y46 y47 h48 k141 ro_ ho_ hk141 hf
    refine zt_wg 2 (pc' := 94) (lv' := [some (.ref y40), some (.int y41), some (.int y42), some (.int y43), some (.int y44), some (.int y45), some (.int y46), some (.int y47)]) (st' := [.int (4 : Int32), .int y47]) (h' := h48) rfl ?_
    refine zt_if ((4 : Int32) ≤ y47) 141 97 (st' := []) rfl rfl rfl (fun b49 => ?_) (fun b49 => ?_)
    · have hf := zo_t hf b49
      exact hk141 y40 y41 y42 y43 y44 y45 y46 y47 h48 hf
    · have hf := zo_f hf b49
      refine zt_wg 8 (pc' := 107) (lv' := [some (.ref y40), some (.int y41), some (.int y42), some (.int y43), some (.int y44), some (.int y45), some (.int y46), some (.int y47)]) (st' := [.int (1 : Int32), .int ((y44 >>> ((y47 >>> ((1 : Int32) &&& 31)) &&& 31)) &&& (1 : Int32))]) (h' := h48) rfl ?_
      obtain ⟨j135_58, hjj135_58, hf⟩ := zo_lj hf
      have kj135_58 : ∀ (x50 : Nat) (x51 : Int32) (x52 : Int32) (x53 : Int32) (x54 : Int32) (x55 : Int32) (x56 : Int32) (x57 : Int32) (h58 : zH), j135_58 x50 x51 x52 x53 x54 x55 x56 x57 h58 = some (ro_, ho_) → zq_wq sc zy_sp (d + 1) 142 135 [some (.ref x50), some (.int x51), some (.int x52), some (.int x53), some (.int x54), some (.int x55), some (.int x56), some (.int x57)] [] h58 (zy_ph ro_ ho_) := by
        intro x50 x51 x52 x53 x54 x55 x56 x57 h58 hf
        rw [hjj135_58] at hf
        refine zt_wg 2 (pc' := 91) (lv' := [some (.ref x50), some (.int x51), some (.int x52), some (.int x53), some (.int x54), some (.int x55), some (.int x56), some (.int (x57 + (1 : Int32)))]) (st' := []) (h' := h58) rfl ?_
        exact ih x50 x51 x52 x53 x54 x55 x56 (x57 + (1 : Int32)) h58 _ _ _ hk141 hf
      refine zt_if (((y44 >>> ((y47 >>> ((1 : Int32) &&& 31)) &&& 31)) &&& (1 : Int32)) = (1 : Int32)) 110 135 (st' := []) rfl rfl rfl (fun b59 => ?_) (fun b59 => ?_)
      · have hf := zo_t hf b59
        refine zt_wg 8 (pc' := 120) (lv' := [some (.ref y40), some (.int y41), some (.int y42), some (.int y43), some (.int y44), some (.int y45), some (.int y46), some (.int y47)]) (st' := [.int (1 : Int32), .int ((y45 >>> ((y47 &&& (1 : Int32)) &&& 31)) &&& (1 : Int32))]) (h' := h48) rfl ?_
        refine zt_if (((y45 >>> ((y47 &&& (1 : Int32)) &&& 31)) &&& (1 : Int32)) = (1 : Int32)) 123 135 (st' := []) rfl rfl rfl (fun b60 => ?_) (fun b60 => ?_)
        · have hf := zo_t hf b60
          refine zt_wg 2 (pc' := 126) (lv' := [some (.ref y40), some (.int y41), some (.int y42), some (.int y43), some (.int y44), some (.int y45), some (.int y46), some (.int y47)]) (st' := [.int y43, .int y46]) (h' := h48) rfl ?_
          refine zt_if (y46 = y43) 129 132 (st' := []) rfl rfl rfl (fun b61 => ?_) (fun b61 => ?_)
          · have hf := zo_t hf b61
            refine zt_wg 1 (pc' := 131) (lv' := [some (.ref y40), some (.int y41), some (.int y42), some (.int y43), some (.int y44), some (.int y45), some (.int y46), some (.int y47)]) (st' := [.int y47]) (h' := h48) rfl ?_
            exact zt_stop rfl rfl (by cases hf; exact ⟨rfl, rfl, rfl⟩)
          · have hf := zo_f hf b61
            refine zt_wg 1 (pc' := 135) (lv' := [some (.ref y40), some (.int y41), some (.int y42), some (.int y43), some (.int y44), some (.int y45), some (.int (y46 + (1 : Int32))), some (.int y47)]) (st' := []) (h' := h48) rfl ?_
            exact kj135_58 y40 y41 y42 y43 y44 y45 (y46 + (1 : Int32)) y47 h48 hf
        · have hf := zo_f hf b60
          exact kj135_58 y40 y41 y42 y43 y44 y45 y46 y47 h48 hf
      · have hf := zo_f hf b59
        exact kj135_58 y40 y41 y42 y43 y44 y45 y46 y47 h48 hf
set_option maxRecDepth 4000 in
theorem zx_rests_ok (sc : zX) (d : Nat) (hd : 2 ≤ d) {a0 : Nat} {a1 : Int32} {a2 : Int32} {a3 : Int32} {h : zH} {ro_ : Option Int32} {ho_ : zH} (hf : zx_rests sc a0 a1 a2 a3 h = some (ro_, ho_)) : zq_wq sc zy_sp (d + 1) 142 0 [some (.ref a0), some (.int a1), some (.int a2), some (.int a3), none, none, none, none] [] h (zy_ph ro_ ho_) := by
  unfold zx_rests at hf
  refine zt_wg 3 (pc' := 5) (lv' := [some (.ref a0), some (.int a1), some (.int a2), some (.int a3), none, none, none, none]) (st' := [.int (999 : Int32), .int (0 : Int32), .int a1]) (h' := h) rfl ?_
  obtain ⟨v2, h1, e3, hf⟩ := zo_c_s hf
  refine zt_cs zq_m35 [.int a1, .int (0 : Int32), .int (999 : Int32)] [] rfl rfl rfl (by decide) rfl rfl rfl (Nat.le_of_ble_eq_true rfl) (Nat.le_of_ble_eq_true rfl) (zx_within_ok sc d (by omega) e3) ?_
  refine zt_wg 0 (pc' := 8) (lv' := [some (.ref a0), some (.int a1), some (.int a2), some (.int a3), none, none, none, none]) (st' := [.int v2]) (h' := h1) rfl ?_
  refine zt_if (v2 = 0) 27 11 (st' := []) rfl rfl rfl (fun b4 => ?_) (fun b4 => ?_)
  · have hf := zo_t hf b4
    exact zt_stop rfl rfl (by cases hf; exact ⟨rfl, rfl, Or.inl rfl⟩)
  · have hf := zo_f hf b4
    refine zt_wg 3 (pc' := 16) (lv' := [some (.ref a0), some (.int a1), some (.int a2), some (.int a3), none, none, none, none]) (st' := [.int (999 : Int32), .int (0 : Int32), .int a2]) (h' := h1) rfl ?_
    obtain ⟨v6, h5, e7, hf⟩ := zo_c_s hf
    refine zt_cs zq_m35 [.int a2, .int (0 : Int32), .int (999 : Int32)] [] rfl rfl rfl (by decide) rfl rfl rfl (Nat.le_of_ble_eq_true rfl) (Nat.le_of_ble_eq_true rfl) (zx_within_ok sc d (by omega) e7) ?_
    refine zt_wg 0 (pc' := 19) (lv' := [some (.ref a0), some (.int a1), some (.int a2), some (.int a3), none, none, none, none]) (st' := [.int v6]) (h' := h5) rfl ?_
    refine zt_if (v6 = 0) 27 22 (st' := []) rfl rfl rfl (fun b8 => ?_) (fun b8 => ?_)
    · have hf := zo_t hf b8
      exact zt_stop rfl rfl (by cases hf; exact ⟨rfl, rfl, Or.inl rfl⟩)
    · have hf := zo_f hf b8
      refine zt_wg 2 (pc' := 24) (lv' := [some (.ref a0), some (.int a1), some (.int a2), some (.int a3), none, none, none, none]) (st' := [.int (-1 : Int32), .int a3]) (h' := h5) rfl ?_
      refine zt_if ((-1 : Int32) ≤ a3) 35 27 (st' := []) rfl rfl rfl (fun b9 => ?_) (fun b9 => ?_)
      · have hf := zo_t hf b9
        refine zt_wg 1 (pc' := 36) (lv' := [some (.ref a0), some (.int a1), some (.int a2), some (.int a3), none, none, none, none]) (st' := [.ref a0]) (h' := h5) rfl ?_
        obtain ⟨v10, e11, hf⟩ := zo_b_s hf
        refine zt_gR rfl rfl rfl (by decide) rfl e11 ?_
        refine zt_wg 3 (pc' := 42) (lv' := [some (.ref a0), some (.int a1), some (.int a2), some (.int a3), none, none, none, none]) (st' := [.int (0 : Int32), .int a2, .int a1, .ref v10]) (h' := h5) rfl ?_
        obtain ⟨e15, v13, h12, e14, hf⟩ := zo_v_s hf
        refine zt_cv zq_m90 [.int a1, .int a2, .int (0 : Int32)] [] rfl rfl rfl rfl rfl rfl (Nat.le_of_ble_eq_true rfl) (Nat.le_of_ble_eq_true rfl) e15 (zx_Army_move_ok sc d (by omega) e14) ?_
        refine zt_wg 0 (pc' := 45) (lv' := [some (.ref a0), some (.int a1), some (.int a2), some (.int a3), none, none, none, none]) (st' := [.int v13]) (h' := h12) rfl ?_
        refine zt_wg 1 (pc' := 46) (lv' := [some (.ref a0), some (.int a1), some (.int a2), some (.int a3), none, none, none, none]) (st' := [.ref a0, .int v13]) (h' := h12) rfl ?_
        obtain ⟨v16, e17, hf⟩ := zo_b_s hf
        refine zt_gR rfl rfl rfl (by decide) rfl e17 ?_
        refine zt_wg 3 (pc' := 52) (lv' := [some (.ref a0), some (.int a1), some (.int a2), some (.int a3), none, none, none, none]) (st' := [.int (1 : Int32), .int a2, .int a1, .ref v16, .int v13]) (h' := h12) rfl ?_
        obtain ⟨e21, v19, h18, e20, hf⟩ := zo_v_s hf
        refine zt_cv zq_m90 [.int a1, .int a2, .int (1 : Int32)] [.int v13] rfl rfl rfl rfl rfl rfl (Nat.le_of_ble_eq_true rfl) (Nat.le_of_ble_eq_true rfl) e21 (zx_Army_move_ok sc d (by omega) e20) ?_
        refine zt_wg 0 (pc' := 55) (lv' := [some (.ref a0), some (.int a1), some (.int a2), some (.int a3), none, none, none, none]) (st' := [.int v19, .int v13]) (h' := h18) rfl ?_
        obtain ⟨v23, h22, e24, hf⟩ := zo_c_s hf
        refine zt_cs zq_m143 [.int v13, .int v19] [] rfl rfl rfl (by decide) rfl rfl rfl (Nat.le_of_ble_eq_true rfl) (Nat.le_of_ble_eq_true rfl) (zx_bestOf_ok sc d (by omega) e24) ?_
        refine zt_wg 0 (pc' := 58) (lv' := [some (.ref a0), some (.int a1), some (.int a2), some (.int a3), none, none, none, none]) (st' := [.int v23]) (h' := h22) rfl ?_
        refine zt_wg 2 (pc' := 61) (lv' := [some (.ref a0), some (.int a1), some (.int a2), some (.int a3), some (.int v23), none, none, none]) (st' := [.ref a0]) (h' := h22) rfl ?_
        obtain ⟨v25, e26, hf⟩ := zo_b_s hf
        refine zt_gR rfl rfl rfl (by decide) rfl e26 ?_
        refine zt_wg 3 (pc' := 67) (lv' := [some (.ref a0), some (.int a1), some (.int a2), some (.int a3), some (.int v23), none, none, none]) (st' := [.int (0 : Int32), .int a1, .int a2, .ref v25]) (h' := h22) rfl ?_
        obtain ⟨e30, v28, h27, e29, hf⟩ := zo_v_s hf
        refine zt_cv zq_m90 [.int a2, .int a1, .int (0 : Int32)] [] rfl rfl rfl rfl rfl rfl (Nat.le_of_ble_eq_true rfl) (Nat.le_of_ble_eq_true rfl) e30 (zx_Army_move_ok sc d (by omega) e29) ?_
        refine zt_wg 0 (pc' := 70) (lv' := [some (.ref a0), some (.int a1), some (.int a2), some (.int a3), some (.int v23), none, none, none]) (st' := [.int v28]) (h' := h27) rfl ?_
        refine zt_wg 1 (pc' := 71) (lv' := [some (.ref a0), some (.int a1), some (.int a2), some (.int a3), some (.int v23), none, none, none]) (st' := [.ref a0, .int v28]) (h' := h27) rfl ?_
        obtain ⟨v31, e32, hf⟩ := zo_b_s hf
        refine zt_gR rfl rfl rfl (by decide) rfl e32 ?_
        refine zt_wg 3 (pc' := 77) (lv' := [some (.ref a0), some (.int a1), some (.int a2), some (.int a3), some (.int v23), none, none, none]) (st' := [.int (1 : Int32), .int a1, .int a2, .ref v31, .int v28]) (h' := h27) rfl ?_
        obtain ⟨e36, v34, h33, e35, hf⟩ := zo_v_s hf
        refine zt_cv zq_m90 [.int a2, .int a1, .int (1 : Int32)] [.int v28] rfl rfl rfl rfl rfl rfl (Nat.le_of_ble_eq_true rfl) (Nat.le_of_ble_eq_true rfl) e36 (zx_Army_move_ok sc d (by omega) e35) ?_
        refine zt_wg 0 (pc' := 80) (lv' := [some (.ref a0), some (.int a1), some (.int a2), some (.int a3), some (.int v23), none, none, none]) (st' := [.int v34, .int v28]) (h' := h33) rfl ?_
        obtain ⟨v38, h37, e39, hf⟩ := zo_c_s hf
        refine zt_cs zq_m143 [.int v28, .int v34] [] rfl rfl rfl (by decide) rfl rfl rfl (Nat.le_of_ble_eq_true rfl) (Nat.le_of_ble_eq_true rfl) (zx_bestOf_ok sc d (by omega) e39) ?_
        refine zt_wg 0 (pc' := 83) (lv' := [some (.ref a0), some (.int a1), some (.int a2), some (.int a3), some (.int v23), none, none, none]) (st' := [.int v38]) (h' := h37) rfl ?_
        refine zt_wg 5 (pc' := 91) (lv' := [some (.ref a0), some (.int a1), some (.int a2), some (.int a3), some (.int v23), some (.int v38), some (.int (0 : Int32)), some (.int (0 : Int32))]) (st' := []) (h' := h37) rfl ?_
        refine zx_rests_l91_ok sc d hd zo_F a0 a1 a2 a3 v23 v38 (0 : Int32) (0 : Int32) h37 _ _ _ ?_ hf
        · intro x62 x63 x64 x65 x66 x67 x68 x69 h70 hf
          refine zt_wg 2 (pc' := 143) (lv' := [some (.ref x62), some (.int x63), some (.int x64), some (.int x65), some (.int x66), some (.int x67), some (.int x68), some (.int x69)]) (st' := [.int (-1 : Int32), .int x65]) (h' := h70) rfl ?_
          refine zt_if (x65 = (-1 : Int32)) 154 146 (st' := []) rfl rfl rfl (fun b71 => ?_) (fun b71 => ?_)
          · have hf := zo_t hf b71
            refine zt_wg 1 (pc' := 156) (lv' := [some (.ref x62), some (.int x63), some (.int x64), some (.int x65), some (.int x66), some (.int x67), some (.int x68), some (.int x69)]) (st' := [.int x68]) (h' := h70) rfl ?_
            exact zt_stop rfl rfl (by cases hf; exact ⟨rfl, rfl, rfl⟩)
          · have hf := zo_f hf b71
            exact zt_stop rfl rfl (by cases hf; exact ⟨rfl, rfl, Or.inr rfl⟩)
      · have hf := zo_f hf b9
        exact zt_stop rfl rfl (by cases hf; exact ⟨rfl, rfl, Or.inl rfl⟩)
def zl_sp (pc : Nat) (i : Instr) : Bool := Nat.beq pc 1249 || Nat.beq pc 1062 || (match i with
  | .ireturn => true
  | _ => false)
def zl_lv (i : Int32) : List (Option Value) := [some (.ref 37), some (.ref 64), some (.ref 216), some (.ref 243), some (.int i), none, none]
def zl_ph (i : Int32) (ro : Nat × List Int32) (ho : zH) (c : zC) : Prop := c.2.2.2 = ho ∧ c.2.1 = zl_lv i ∧ match ro with
  | (0, _) => c.1 = 1249 ∧ c.2.2.1 = []
  | (2, _) => c.1 = 1256 ∧ c.2.2.1 = [.int 1]
  | (3, vs) => c.1 = 1062 ∧ c.2.2.1 = .ref 243 :: (vs.reverse.map Value.int ++ [.ref 64])
  | _ => True
def zl_body (sc : zX) (i : Int32) (h : zH) : Option ((Nat × List Int32) × zH) := zo_b (zq_len sc h 37) (fun v1 => if (v1 - (7 : Int32)) < i then (some ((2, []), h)) else (zo_b (zq_rdI sc h 37 i) (fun v4 => if (v4 &&& (31 : Int32)) = (0 : Int32) then (zo_b (zq_rdI sc h 37 (i + (1 : Int32))) (fun v7 => zo_b (zq_rdI sc h 37 (i + (2 : Int32))) (fun v9 => zo_b (zq_rdI sc h 37 (i + (3 : Int32))) (fun v11 => zo_b (zq_rdI sc h 37 (i + (4 : Int32))) (fun v13 => zo_b (zq_rdI sc h 37 (i + (5 : Int32))) (fun v15 => zo_b (zq_rdI sc h 37 (i + (6 : Int32))) (fun v17 => zo_v h 64 9 (zx_feed sc 64 ((v7.toInt64 <<< ((32 : Int32).toInt64 &&& 63)) ||| (v9.toInt64 &&& (4294967295 : Int64))) ((v11.toInt64 <<< ((32 : Int32).toInt64 &&& 63)) ||| (v13.toInt64 &&& (4294967295 : Int64))) ((v15.toInt64 <<< ((32 : Int32).toInt64 &&& 63)) ||| (v17.toInt64 &&& (4294967295 : Int64))) h) (fun v20 h19 => zo_b (zq_rdI sc h19 37 (i + (1 : Int32))) (fun v23 => zo_b (zq_rdI sc h19 37 (i + (2 : Int32))) (fun v25 => zo_b (zq_rdI sc h19 37 (i + (3 : Int32))) (fun v27 => zo_b (zq_rdI sc h19 37 (i + (4 : Int32))) (fun v29 => zo_b (zq_rdI sc h19 37 (i + (5 : Int32))) (fun v31 => zo_b (zq_rdI sc h19 37 (i + (6 : Int32))) (fun v33 => zo_v h19 216 10 (zm_feed sc 216 ((v23.toInt64 <<< ((32 : Int32).toInt64 &&& 63)) ||| (v25.toInt64 &&& (4294967295 : Int64))) ((v27.toInt64 <<< ((32 : Int32).toInt64 &&& 63)) ||| (v29.toInt64 &&& (4294967295 : Int64))) ((v31.toInt64 <<< ((32 : Int32).toInt64 &&& 63)) ||| (v33.toInt64 &&& (4294967295 : Int64))) h19) (fun v36 h35 => if v20 = v36 then (some ((0, []), h35)) else (some ((1, []), h35))))))))))))))))) else if (v4 &&& (31 : Int32)) = (1 : Int32) then (zo_v h 64 9 (zx_army sc 64 h) (fun v42 h41 => zo_v h41 216 10 (zm_army sc 216 h41) (fun v46 h45 => if v42 = v46 then (some ((0, []), h45)) else (some ((1, []), h45))))) else if (v4 &&& (31 : Int32)) = (2 : Int32) then (zo_v h 64 9 (zx_war sc 64 h) (fun v52 h51 => zo_v h51 216 10 (zm_war sc 216 h51) (fun v56 h55 => if v52 = v56 then (some ((0, []), h55)) else (some ((1, []), h55))))) else if (v4 &&& (31 : Int32)) = (3 : Int32) then (zo_b (zq_rdI sc h 37 (i + (1 : Int32))) (fun v61 => zo_b (zq_rdI sc h 37 (i + (2 : Int32))) (fun v63 => zo_v h 64 9 (zx_post sc 64 v61 v63 h) (fun v66 h65 => zo_b (zq_rdI sc h65 37 (i + (1 : Int32))) (fun v69 => zo_b (zq_rdI sc h65 37 (i + (2 : Int32))) (fun v71 => zo_v h65 216 10 (zm_post sc 216 v69 v71 h65) (fun v74 h73 => if v66 = v74 then (some ((0, []), h73)) else (some ((1, []), h73))))))))) else if (v4 &&& (31 : Int32)) = (4 : Int32) then (zo_b (zq_rdI sc h 37 (i + (1 : Int32))) (fun v79 => zo_b (zq_rdI sc h 37 (i + (2 : Int32))) (fun v81 => zo_v h 64 9 (zx_man sc 64 v79 v81 h) (fun v84 h83 => zo_b (zq_rdI sc h83 37 (i + (1 : Int32))) (fun v87 => zo_b (zq_rdI sc h83 37 (i + (2 : Int32))) (fun v89 => zo_v h83 216 10 (zm_man sc 216 v87 v89 h83) (fun v92 h91 => if v84 = v92 then (some ((0, []), h91)) else (some ((1, []), h91))))))))) else if (v4 &&& (31 : Int32)) = (5 : Int32) then (zo_b (zq_rdI sc h 37 (i + (1 : Int32))) (fun v97 => zo_b (zq_rdI sc h 37 (i + (2 : Int32))) (fun v99 => zo_v h 64 9 (zx_skill sc 64 v97 v99 h) (fun v102 h101 => zo_b (zq_rdI sc h101 37 (i + (1 : Int32))) (fun v105 => zo_b (zq_rdI sc h101 37 (i + (2 : Int32))) (fun v107 => zo_v h101 216 10 (zm_skill sc 216 v105 v107 h101) (fun v110 h109 => if v102 = v110 then (some ((0, []), h109)) else (some ((1, []), h109))))))))) else if (v4 &&& (31 : Int32)) = (6 : Int32) then (zo_v h 64 9 (zx_ours sc 64 h) (fun v116 h115 => zo_v h115 216 10 (zm_ours sc 216 h115) (fun v120 h119 => if v116 = v120 then (some ((0, []), h119)) else (some ((1, []), h119))))) else if (v4 &&& (31 : Int32)) = (7 : Int32) then (zo_b (zq_rdI sc h 37 (i + (1 : Int32))) (fun v125 => zo_v h 64 9 (zx_draw sc 64 v125 h) (fun v128 h127 => zo_b (zq_rdI sc h127 37 (i + (1 : Int32))) (fun v131 => zo_v h127 216 10 (zm_draw sc 216 v131 h127) (fun v134 h133 => if v128 = v134 then (some ((0, []), h133)) else (some ((1, []), h133))))))) else if (v4 &&& (31 : Int32)) = (8 : Int32) then (zo_b (zq_rdI sc h 37 (i + (1 : Int32))) (fun v139 => zo_b (zq_rdI sc h 37 (i + (2 : Int32))) (fun v141 => zo_b (zq_rdI sc h 37 (i + (3 : Int32))) (fun v143 => zo_v h 64 9 (zx_sell sc 64 v139 v141 v143 h) (fun v146 h145 => zo_b (zq_rdI sc h145 37 (i + (1 : Int32))) (fun v149 => zo_b (zq_rdI sc h145 37 (i + (2 : Int32))) (fun v151 => zo_b (zq_rdI sc h145 37 (i + (3 : Int32))) (fun v153 => zo_v h145 216 10 (zm_sell sc 216 v149 v151 v153 h145) (fun v156 h155 => if v146 = v156 then (some ((0, []), h155)) else (some ((1, []), h155))))))))))) else if (v4 &&& (31 : Int32)) = (9 : Int32) then (zo_b (zq_rdI sc h 37 (i + (1 : Int32))) (fun v161 => zo_v h 64 9 (zx_order sc 64 v161 h) (fun v164 h163 => zo_b (zq_rdI sc h163 37 (i + (1 : Int32))) (fun v167 => zo_v h163 216 10 (zm_order sc 216 v167 h163) (fun v170 h169 => if v164 = v170 then (some ((0, []), h169)) else (some ((1, []), h169))))))) else if (v4 &&& (31 : Int32)) = (10 : Int32) then (zo_b (zq_rdI sc h 37 (i + (1 : Int32))) (fun v175 => zo_v h 64 9 (zx_weeks sc 64 v175 h) (fun v178 h177 => zo_b (zq_rdI sc h177 37 (i + (1 : Int32))) (fun v181 => zo_v h177 216 10 (zm_weeks sc 216 v181 h177) (fun v184 h183 => if v178 = v184 then (some ((0, []), h183)) else (some ((1, []), h183))))))) else if (v4 &&& (31 : Int32)) = (11 : Int32) then (zo_v h 64 9 (zx_undo sc 64 h) (fun v190 h189 => zo_v h189 216 10 (zm_undo sc 216 h189) (fun v194 h193 => if v190 = v194 then (some ((0, []), h193)) else (some ((1, []), h193))))) else if (v4 &&& (31 : Int32)) = (12 : Int32) then (zo_b (zq_rdI sc h 37 (i + (1 : Int32))) (fun v199 => zo_v h 64 9 (zx_judged sc 64 v199 h) (fun v202 h201 => zo_b (zq_rdI sc h201 37 (i + (1 : Int32))) (fun v205 => zo_v h201 216 10 (zm_judged sc 216 v205 h201) (fun v208 h207 => if v202 = v208 then (some ((0, []), h207)) else (some ((1, []), h207))))))) else if (v4 &&& (31 : Int32)) = (13 : Int32) then (zo_v h 64 9 (zx_first sc 64 h) (fun v214 h213 => zo_v h213 216 10 (zm_first sc 216 h213) (fun v218 h217 => if v214 = v218 then (some ((0, []), h217)) else (some ((1, []), h217))))) else if (v4 &&& (31 : Int32)) = (14 : Int32) then (zo_b (zq_rdI sc h 37 (i + (1 : Int32))) (fun v223 => zo_v h 64 9 (zx_best sc 64 v223 h) (fun v226 h225 => zo_b (zq_rdI sc h225 37 (i + (1 : Int32))) (fun v229 => zo_v h225 216 10 (zm_best sc 216 v229 h225) (fun v232 h231 => if v226 = v232 then (some ((0, []), h231)) else (some ((1, []), h231))))))) else if (v4 &&& (31 : Int32)) = (15 : Int32) then (zo_v h 64 9 (zx_mean sc 64 h) (fun v238 h237 => zo_v h237 216 10 (zm_mean sc 216 h237) (fun v242 h241 => if v238 = v242 then (some ((0, []), h241)) else (some ((1, []), h241))))) else if (v4 &&& (31 : Int32)) = (16 : Int32) then (zo_v h 64 9 (zx_loss sc 64 h) (fun v248 h247 => zo_v h247 216 10 (zm_loss sc 216 h247) (fun v252 h251 => if v248 = v252 then (some ((0, []), h251)) else (some ((1, []), h251))))) else if (v4 &&& (31 : Int32)) = (17 : Int32) then (zo_b (zq_rdI sc h 37 (i + (1 : Int32))) (fun v257 => zo_b (zq_rdI sc h 37 (i + (2 : Int32))) (fun v259 => zo_v h 64 9 (zx_plan sc 64 v257 v259 h) (fun v262 h261 => zo_b (zq_rdI sc h261 37 (i + (1 : Int32))) (fun v265 => zo_b (zq_rdI sc h261 37 (i + (2 : Int32))) (fun v267 => zo_v h261 216 10 (zm_plan sc 216 v265 v267 h261) (fun v270 h269 => if v262 = v270 then (some ((0, []), h269)) else (some ((1, []), h269))))))))) else if (v4 &&& (31 : Int32)) = (18 : Int32) then (zo_b (zq_rdI sc h 37 (i + (1 : Int32))) (fun v275 => zo_v h 64 9 (zx_swaps sc 64 v275 h) (fun v278 h277 => zo_b (zq_rdI sc h277 37 (i + (1 : Int32))) (fun v281 => zo_v h277 216 10 (zm_swaps sc 216 v281 h277) (fun v284 h283 => if v278 = v284 then (some ((0, []), h283)) else (some ((1, []), h283))))))) else if (v4 &&& (31 : Int32)) = (19 : Int32) then (zo_v h 64 9 (zx_leave sc 64 h) (fun v290 h289 => zo_v h289 216 10 (zm_leave sc 216 h289) (fun v294 h293 => if v290 = v294 then (some ((0, []), h293)) else (some ((1, []), h293))))) else if (v4 &&& (31 : Int32)) = (20 : Int32) then (zo_b (zq_rdI sc h 37 (i + (1 : Int32))) (fun v299 => zo_v h 64 9 (zx_pool sc 64 v299 h) (fun v302 h301 => zo_b (zq_rdI sc h301 37 (i + (1 : Int32))) (fun v305 => zo_v h301 216 10 (zm_pool sc 216 v305 h301) (fun v308 h307 => if v302 = v308 then (some ((0, []), h307)) else (some ((1, []), h307))))))) else if (v4 &&& (31 : Int32)) = (21 : Int32) then (zo_b (zq_rdI sc h 37 (i + (1 : Int32))) (fun v313 => zo_b (zq_rdI sc h 37 (i + (2 : Int32))) (fun v315 => zo_v h 64 9 (zx_share sc 64 v313 v315 h) (fun v318 h317 => zo_b (zq_rdI sc h317 37 (i + (1 : Int32))) (fun v321 => zo_b (zq_rdI sc h317 37 (i + (2 : Int32))) (fun v323 => zo_v h317 216 10 (zm_share sc 216 v321 v323 h317) (fun v326 h325 => if v318 = v326 then (some ((0, []), h325)) else (some ((1, []), h325))))))))) else if (v4 &&& (31 : Int32)) = (22 : Int32) then (zo_b (zq_rdI sc h 37 (i + (1 : Int32))) (fun v331 => zo_b (zq_rdI sc h 37 (i + (2 : Int32))) (fun v333 => zo_v h 64 9 (zx_tell sc 64 v331 v333 h) (fun v336 h335 => zo_b (zq_rdI sc h335 37 (i + (1 : Int32))) (fun v339 => zo_b (zq_rdI sc h335 37 (i + (2 : Int32))) (fun v341 => zo_v h335 216 10 (zm_tell sc 216 v339 v341 h335) (fun v344 h343 => if v336 = v344 then (some ((0, []), h343)) else (some ((1, []), h343))))))))) else if (v4 &&& (31 : Int32)) = (23 : Int32) then (zo_b (zq_rdI sc h 37 (i + (1 : Int32))) (fun v349 => zo_b (zq_rdI sc h 37 (i + (2 : Int32))) (fun v351 => zo_v h 64 9 (zx_fair sc 64 v349 v351 h) (fun v354 h353 => zo_b (zq_rdI sc h353 37 (i + (1 : Int32))) (fun v357 => zo_b (zq_rdI sc h353 37 (i + (2 : Int32))) (fun v359 => zo_v h353 216 10 (zm_fair sc 216 v357 v359 h353) (fun v362 h361 => if v354 = v362 then (some ((0, []), h361)) else (some ((1, []), h361))))))))) else if (v4 &&& (31 : Int32)) = (24 : Int32) then (zo_b (zq_rdI sc h 37 (i + (1 : Int32))) (fun v367 => zo_b (zq_rdI sc h 37 (i + (2 : Int32))) (fun v369 => zo_b (zq_rdI sc h 37 (i + (3 : Int32))) (fun v371 => zo_v h 64 9 (zx_more sc 64 v367 v369 v371 h) (fun v374 h373 => zo_b (zq_rdI sc h373 37 (i + (1 : Int32))) (fun v377 => zo_b (zq_rdI sc h373 37 (i + (2 : Int32))) (fun v379 => zo_b (zq_rdI sc h373 37 (i + (3 : Int32))) (fun v381 => zo_v h373 216 10 (zm_more sc 216 v377 v379 v381 h373) (fun v384 h383 => if v374 = v384 then (some ((0, []), h383)) else (some ((1, []), h383))))))))))) else if (v4 &&& (31 : Int32)) = (25 : Int32) then (zo_b (zq_rdI sc h 37 (i + (1 : Int32))) (fun v389 => zo_v h 64 9 (zx_see sc 64 v389 h) (fun v392 h391 => zo_b (zq_rdI sc h391 37 (i + (1 : Int32))) (fun v395 => zo_v h391 216 10 (zm_see sc 216 v395 h391) (fun v398 h397 => if v392 = v398 then (some ((0, []), h397)) else (some ((1, []), h397))))))) else if (v4 &&& (31 : Int32)) = (26 : Int32) then (zo_b (zq_rdI sc h 37 (i + (1 : Int32))) (fun v403 => zo_v h 64 9 (zx_orders sc 64 v403 h) (fun v406 h405 => zo_b (zq_rdI sc h405 37 (i + (1 : Int32))) (fun v409 => zo_v h405 216 10 (zm_orders sc 216 v409 h405) (fun v412 h411 => if v406 = v412 then (some ((0, []), h411)) else (some ((1, []), h411))))))) else if (v4 &&& (31 : Int32)) = (27 : Int32) then (zo_b (zq_rdI sc h 37 (i + (1 : Int32))) (fun v417 => zo_v h 64 9 (zx_putOff sc 64 v417 h) (fun v420 h419 => zo_b (zq_rdI sc h419 37 (i + (1 : Int32))) (fun v423 => zo_v h419 216 10 (zm_putOff sc 216 v423 h419) (fun v426 h425 => if v420 = v426 then (some ((0, []), h425)) else (some ((1, []), h425))))))) else if (v4 &&& (31 : Int32)) = (28 : Int32) then (zo_b (zq_rdI sc h 37 (i + (1 : Int32))) (fun v431 => zo_b (zq_rdI sc h 37 (i + (2 : Int32))) (fun v433 => zo_b (zq_rdI sc h 37 (i + (3 : Int32))) (fun v435 => some ((3, [v431, v433, v435]), h))))) else if (v4 &&& (31 : Int32)) = (29 : Int32) then (zo_b (zq_rdI sc h 37 (i + (1 : Int32))) (fun v438 => zo_b (zq_rdI sc h 37 (i + (2 : Int32))) (fun v440 => zo_b (zq_rdI sc h 37 (i + (3 : Int32))) (fun v442 => zo_v h 64 9 (zx_years sc 64 v438 v440 v442 h) (fun v445 h444 => zo_b (zq_rdI sc h444 37 (i + (1 : Int32))) (fun v448 => zo_b (zq_rdI sc h444 37 (i + (2 : Int32))) (fun v450 => zo_b (zq_rdI sc h444 37 (i + (3 : Int32))) (fun v452 => zo_v h444 216 10 (zm_years sc 216 v448 v450 v452 h444) (fun v455 h454 => if v445 = v455 then (some ((0, []), h454)) else (some ((1, []), h454))))))))))) else if (v4 &&& (31 : Int32)) = (30 : Int32) then (zo_b (zq_rdI sc h 37 (i + (1 : Int32))) (fun v460 => zo_b (zq_rdI sc h 37 (i + (2 : Int32))) (fun v462 => zo_l (if v462 = 0 then (0 : Int32) else (1 : Int32)) (fun (x464 : Int32) => zo_v h 64 9 (zx_mark sc 64 v460 x464 h) (fun v466 h465 => zo_b (zq_rdI sc h465 37 (i + (1 : Int32))) (fun v469 => zo_b (zq_rdI sc h465 37 (i + (2 : Int32))) (fun v471 => zo_l (if v471 = 0 then (0 : Int32) else (1 : Int32)) (fun (x473 : Int32) => zo_v h465 216 10 (zm_mark sc 216 v469 x473 h465) (fun v475 h474 => if v466 = v475 then (some ((0, []), h474)) else (some ((1, []), h474))))))))))) else if (v4 &&& (31 : Int32)) = (31 : Int32) then (zo_b (zq_rdI sc h 37 (i + (1 : Int32))) (fun v482 => zo_v h 64 9 (zx_count sc 64 v482 h) (fun v485 h484 => zo_b (zq_rdI sc h484 37 (i + (1 : Int32))) (fun v488 => zo_v h484 216 10 (zm_count sc 216 v488 h484) (fun v491 h490 => if v485 = v491 then (some ((0, []), h490)) else (some ((1, []), h490))))))) else (some ((0, []), h)))))
set_option maxHeartbeats 8000000 in
set_option maxRecDepth 8000 in
theorem zl_body_ok (sc : zX) (d : Nat) (hd : 71 ≤ d) {i : Int32} {h : zH} {ro_ : Nat × List Int32} {ho_ : zH} (hf : zl_body sc i h = some (ro_, ho_)) : zq_wq sc zl_sp (d + 1) 265 23 (zl_lv i) [] h (zl_ph i ro_ ho_) := by
  unfold zl_body at hf
  show zq_wq sc zl_sp (d + 1) 265 23 [some (.ref 37), some (.ref 64), some (.ref 216), some (.ref 243), some (.int i), none, none] [] h (zl_ph i ro_ ho_)
  refine zt_wg 2 (pc' := 26) (lv' := [some (.ref 37), some (.ref 64), some (.ref 216), some (.ref 243), some (.int i), none, none]) (st' := [.ref 37, .int i]) (h' := h) rfl ?_
  obtain ⟨v1, e2, hf⟩ := zo_b_s hf
  refine zt_alen rfl rfl e2 ?_
  refine zt_wg 2 (pc' := 30) (lv' := [some (.ref 37), some (.ref 64), some (.ref 216), some (.ref 243), some (.int i), none, none]) (st' := [.int (v1 - (7 : Int32)), .int i]) (h' := h) rfl ?_
  refine zt_if ((v1 - (7 : Int32)) < i) 1255 33 (st' := []) rfl rfl rfl (fun b3 => ?_) (fun b3 => ?_)
  · have hf := zo_t hf b3
    refine zt_wg 1 (pc' := 1256) (lv' := [some (.ref 37), some (.ref 64), some (.ref 216), some (.ref 243), some (.int i), none, none]) (st' := [.int (1 : Int32)]) (h' := h) rfl ?_
    exact zt_stop rfl rfl (by cases hf; exact ⟨rfl, rfl, rfl, rfl⟩)
  · have hf := zo_f hf b3
    refine zt_wg 2 (pc' := 36) (lv' := [some (.ref 37), some (.ref 64), some (.ref 216), some (.ref 243), some (.int i), none, none]) (st' := [.int i, .ref 37]) (h' := h) rfl ?_
    obtain ⟨v4, e5, hf⟩ := zo_b_s hf
    refine zt_iald rfl rfl e5 ?_
    refine zt_wg 2 (pc' := 40) (lv' := [some (.ref 37), some (.ref 64), some (.ref 216), some (.ref 243), some (.int i), none, none]) (st' := [.int (v4 &&& (31 : Int32))]) (h' := h) rfl ?_
    by_cases b6 : (v4 &&& (31 : Int32)) = (0 : Int32)
    · have hf := zo_t hf b6
      refine zt_ts (t := 184) rfl rfl (by rw [b6]; rfl) ?_
      refine zt_wg 5 (pc' := 190) (lv' := [some (.ref 37), some (.ref 64), some (.ref 216), some (.ref 243), some (.int i), none, none]) (st' := [.int (i + (1 : Int32)), .ref 37, .ref 64]) (h' := h) rfl ?_
      obtain ⟨v7, e8, hf⟩ := zo_b_s hf
      refine zt_iald rfl rfl e8 ?_
      refine zt_wg 7 (pc' := 200) (lv' := [some (.ref 37), some (.ref 64), some (.ref 216), some (.ref 243), some (.int i), none, none]) (st' := [.int (i + (2 : Int32)), .ref 37, .long (v7.toInt64 <<< ((32 : Int32).toInt64 &&& 63)), .ref 64]) (h' := h) rfl ?_
      obtain ⟨v9, e10, hf⟩ := zo_b_s hf
      refine zt_iald rfl rfl e10 ?_
      refine zt_wg 8 (pc' := 212) (lv' := [some (.ref 37), some (.ref 64), some (.ref 216), some (.ref 243), some (.int i), none, none]) (st' := [.int (i + (3 : Int32)), .ref 37, .long ((v7.toInt64 <<< ((32 : Int32).toInt64 &&& 63)) ||| (v9.toInt64 &&& (4294967295 : Int64))), .ref 64]) (h' := h) rfl ?_
      obtain ⟨v11, e12, hf⟩ := zo_b_s hf
      refine zt_iald rfl rfl e12 ?_
      refine zt_wg 7 (pc' := 222) (lv' := [some (.ref 37), some (.ref 64), some (.ref 216), some (.ref 243), some (.int i), none, none]) (st' := [.int (i + (4 : Int32)), .ref 37, .long (v11.toInt64 <<< ((32 : Int32).toInt64 &&& 63)), .long ((v7.toInt64 <<< ((32 : Int32).toInt64 &&& 63)) ||| (v9.toInt64 &&& (4294967295 : Int64))), .ref 64]) (h' := h) rfl ?_
      obtain ⟨v13, e14, hf⟩ := zo_b_s hf
      refine zt_iald rfl rfl e14 ?_
      refine zt_wg 8 (pc' := 234) (lv' := [some (.ref 37), some (.ref 64), some (.ref 216), some (.ref 243), some (.int i), none, none]) (st' := [.int (i + (5 : Int32)), .ref 37, .long ((v11.toInt64 <<< ((32 : Int32).toInt64 &&& 63)) ||| (v13.toInt64 &&& (4294967295 : Int64))), .long ((v7.toInt64 <<< ((32 : Int32).toInt64 &&& 63)) ||| (v9.toInt64 &&& (4294967295 : Int64))), .ref 64]) (h' := h) rfl ?_
      obtain ⟨v15, e16, hf⟩ := zo_b_s hf
      refine zt_iald rfl rfl e16 ?_
      refine zt_wg 7 (pc' := 245) (lv' := [some (.ref 37), some (.ref 64), some (.ref 216), some (.ref 243), some (.int i), none, none]) (st' := [.int (i + (6 : Int32)), .ref 37, .long (v15.toInt64 <<< ((32 : Int32).toInt64 &&& 63)), .long ((v11.toInt64 <<< ((32 : Int32).toInt64 &&& 63)) ||| (v13.toInt64 &&& (4294967295 : Int64))), .long ((v7.toInt64 <<< ((32 : Int32).toInt64 &&& 63)) ||| (v9.toInt64 &&& (4294967295 : Int64))), .ref 64]) (h' := h) rfl ?_
      obtain ⟨v17, e18, hf⟩ := zo_b_s hf
      refine zt_iald rfl rfl e18 ?_
      refine zt_wg 4 (pc' := 252) (lv' := [some (.ref 37), some (.ref 64), some (.ref 216), some (.ref 243), some (.int i), none, none]) (st' := [.long ((v15.toInt64 <<< ((32 : Int32).toInt64 &&& 63)) ||| (v17.toInt64 &&& (4294967295 : Int64))), .long ((v11.toInt64 <<< ((32 : Int32).toInt64 &&& 63)) ||| (v13.toInt64 &&& (4294967295 : Int64))), .long ((v7.toInt64 <<< ((32 : Int32).toInt64 &&& 63)) ||| (v9.toInt64 &&& (4294967295 : Int64))), .ref 64]) (h' := h) rfl ?_
      obtain ⟨e22, v20, h19, e21, hf⟩ := zo_v_s hf
      refine zt_cv zq_m13 [.long ((v7.toInt64 <<< ((32 : Int32).toInt64 &&& 63)) ||| (v9.toInt64 &&& (4294967295 : Int64))), .long ((v11.toInt64 <<< ((32 : Int32).toInt64 &&& 63)) ||| (v13.toInt64 &&& (4294967295 : Int64))), .long ((v15.toInt64 <<< ((32 : Int32).toInt64 &&& 63)) ||| (v17.toInt64 &&& (4294967295 : Int64)))] [] rfl rfl rfl rfl rfl rfl (Nat.le_of_ble_eq_true rfl) (Nat.le_of_ble_eq_true rfl) e22 (zx_feed_ok sc d (by omega) e21) ?_
      refine zt_wg 0 (pc' := 255) (lv' := [some (.ref 37), some (.ref 64), some (.ref 216), some (.ref 243), some (.int i), none, none]) (st' := [.int v20]) (h' := h19) rfl ?_
      refine zt_wg 5 (pc' := 261) (lv' := [some (.ref 37), some (.ref 64), some (.ref 216), some (.ref 243), some (.int i), none, none]) (st' := [.int (i + (1 : Int32)), .ref 37, .ref 216, .int v20]) (h' := h19) rfl ?_
      obtain ⟨v23, e24, hf⟩ := zo_b_s hf
      refine zt_iald rfl rfl e24 ?_
      refine zt_wg 7 (pc' := 271) (lv' := [some (.ref 37), some (.ref 64), some (.ref 216), some (.ref 243), some (.int i), none, none]) (st' := [.int (i + (2 : Int32)), .ref 37, .long (v23.toInt64 <<< ((32 : Int32).toInt64 &&& 63)), .ref 216, .int v20]) (h' := h19) rfl ?_
      obtain ⟨v25, e26, hf⟩ := zo_b_s hf
      refine zt_iald rfl rfl e26 ?_
      refine zt_wg 8 (pc' := 283) (lv' := [some (.ref 37), some (.ref 64), some (.ref 216), some (.ref 243), some (.int i), none, none]) (st' := [.int (i + (3 : Int32)), .ref 37, .long ((v23.toInt64 <<< ((32 : Int32).toInt64 &&& 63)) ||| (v25.toInt64 &&& (4294967295 : Int64))), .ref 216, .int v20]) (h' := h19) rfl ?_
      obtain ⟨v27, e28, hf⟩ := zo_b_s hf
      refine zt_iald rfl rfl e28 ?_
      refine zt_wg 7 (pc' := 293) (lv' := [some (.ref 37), some (.ref 64), some (.ref 216), some (.ref 243), some (.int i), none, none]) (st' := [.int (i + (4 : Int32)), .ref 37, .long (v27.toInt64 <<< ((32 : Int32).toInt64 &&& 63)), .long ((v23.toInt64 <<< ((32 : Int32).toInt64 &&& 63)) ||| (v25.toInt64 &&& (4294967295 : Int64))), .ref 216, .int v20]) (h' := h19) rfl ?_
      obtain ⟨v29, e30, hf⟩ := zo_b_s hf
      refine zt_iald rfl rfl e30 ?_
      refine zt_wg 8 (pc' := 305) (lv' := [some (.ref 37), some (.ref 64), some (.ref 216), some (.ref 243), some (.int i), none, none]) (st' := [.int (i + (5 : Int32)), .ref 37, .long ((v27.toInt64 <<< ((32 : Int32).toInt64 &&& 63)) ||| (v29.toInt64 &&& (4294967295 : Int64))), .long ((v23.toInt64 <<< ((32 : Int32).toInt64 &&& 63)) ||| (v25.toInt64 &&& (4294967295 : Int64))), .ref 216, .int v20]) (h' := h19) rfl ?_
      obtain ⟨v31, e32, hf⟩ := zo_b_s hf
      refine zt_iald rfl rfl e32 ?_
      refine zt_wg 7 (pc' := 316) (lv' := [some (.ref 37), some (.ref 64), some (.ref 216), some (.ref 243), some (.int i), none, none]) (st' := [.int (i + (6 : Int32)), .ref 37, .long (v31.toInt64 <<< ((32 : Int32).toInt64 &&& 63)), .long ((v27.toInt64 <<< ((32 : Int32).toInt64 &&& 63)) ||| (v29.toInt64 &&& (4294967295 : Int64))), .long ((v23.toInt64 <<< ((32 : Int32).toInt64 &&& 63)) ||| (v25.toInt64 &&& (4294967295 : Int64))), .ref 216, .int v20]) (h' := h19) rfl ?_
      obtain ⟨v33, e34, hf⟩ := zo_b_s hf
      refine zt_iald rfl rfl e34 ?_
      refine zt_wg 4 (pc' := 323) (lv' := [some (.ref 37), some (.ref 64), some (.ref 216), some (.ref 243), some (.int i), none, none]) (st' := [.long ((v31.toInt64 <<< ((32 : Int32).toInt64 &&& 63)) ||| (v33.toInt64 &&& (4294967295 : Int64))), .long ((v27.toInt64 <<< ((32 : Int32).toInt64 &&& 63)) ||| (v29.toInt64 &&& (4294967295 : Int64))), .long ((v23.toInt64 <<< ((32 : Int32).toInt64 &&& 63)) ||| (v25.toInt64 &&& (4294967295 : Int64))), .ref 216, .int v20]) (h' := h19) rfl ?_
      obtain ⟨e38, v36, h35, e37, hf⟩ := zo_v_s hf
      refine zt_cv zq_m145 [.long ((v23.toInt64 <<< ((32 : Int32).toInt64 &&& 63)) ||| (v25.toInt64 &&& (4294967295 : Int64))), .long ((v27.toInt64 <<< ((32 : Int32).toInt64 &&& 63)) ||| (v29.toInt64 &&& (4294967295 : Int64))), .long ((v31.toInt64 <<< ((32 : Int32).toInt64 &&& 63)) ||| (v33.toInt64 &&& (4294967295 : Int64)))] [.int v20] rfl rfl rfl rfl rfl rfl (Nat.le_of_ble_eq_true rfl) (Nat.le_of_ble_eq_true rfl) e38 (zm_feed_ok sc d (by omega) e37) ?_
      refine zt_wg 0 (pc' := 326) (lv' := [some (.ref 37), some (.ref 64), some (.ref 216), some (.ref 243), some (.int i), none, none]) (st' := [.int v36, .int v20]) (h' := h35) rfl ?_
      refine zt_if (v20 = v36) 1249 329 (st' := []) rfl rfl rfl (fun b39 => ?_) (fun b39 => ?_)
      · have hf := zo_t hf b39
        exact zt_stop rfl rfl (by cases hf; exact ⟨rfl, rfl, rfl, rfl⟩)
      · have hf := zo_f hf b39
        refine zt_wg 1 (pc' := 330) (lv' := [some (.ref 37), some (.ref 64), some (.ref 216), some (.ref 243), some (.int i), none, none]) (st' := [.int (0 : Int32)]) (h' := h35) rfl ?_
        exact zt_stop rfl rfl (by cases hf; exact ⟨rfl, rfl, trivial⟩)
    have hf := zo_f hf b6
    by_cases b40 : (v4 &&& (31 : Int32)) = (1 : Int32)
    · have hf := zo_t hf b40
      refine zt_ts (t := 331) rfl rfl (by rw [b40]; rfl) ?_
      refine zt_wg 1 (pc' := 332) (lv' := [some (.ref 37), some (.ref 64), some (.ref 216), some (.ref 243), some (.int i), none, none]) (st' := [.ref 64]) (h' := h) rfl ?_
      obtain ⟨e44, v42, h41, e43, hf⟩ := zo_v_s hf
      refine zt_cv zq_m15 [] [] rfl rfl rfl rfl rfl rfl (Nat.le_of_ble_eq_true rfl) (Nat.le_of_ble_eq_true rfl) e44 (zx_army_ok sc d (by omega) e43) ?_
      refine zt_wg 0 (pc' := 335) (lv' := [some (.ref 37), some (.ref 64), some (.ref 216), some (.ref 243), some (.int i), none, none]) (st' := [.int v42]) (h' := h41) rfl ?_
      refine zt_wg 1 (pc' := 336) (lv' := [some (.ref 37), some (.ref 64), some (.ref 216), some (.ref 243), some (.int i), none, none]) (st' := [.ref 216, .int v42]) (h' := h41) rfl ?_
      obtain ⟨e48, v46, h45, e47, hf⟩ := zo_v_s hf
      refine zt_cv zq_m154 [] [.int v42] rfl rfl rfl rfl rfl rfl (Nat.le_of_ble_eq_true rfl) (Nat.le_of_ble_eq_true rfl) e48 (zm_army_ok sc d (by omega) e47) ?_
      refine zt_wg 0 (pc' := 339) (lv' := [some (.ref 37), some (.ref 64), some (.ref 216), some (.ref 243), some (.int i), none, none]) (st' := [.int v46, .int v42]) (h' := h45) rfl ?_
      refine zt_if (v42 = v46) 1249 342 (st' := []) rfl rfl rfl (fun b49 => ?_) (fun b49 => ?_)
      · have hf := zo_t hf b49
        exact zt_stop rfl rfl (by cases hf; exact ⟨rfl, rfl, rfl, rfl⟩)
      · have hf := zo_f hf b49
        refine zt_wg 1 (pc' := 343) (lv' := [some (.ref 37), some (.ref 64), some (.ref 216), some (.ref 243), some (.int i), none, none]) (st' := [.int (0 : Int32)]) (h' := h45) rfl ?_
        exact zt_stop rfl rfl (by cases hf; exact ⟨rfl, rfl, trivial⟩)
    have hf := zo_f hf b40
    by_cases b50 : (v4 &&& (31 : Int32)) = (2 : Int32)
    · have hf := zo_t hf b50
      refine zt_ts (t := 344) rfl rfl (by rw [b50]; rfl) ?_
      refine zt_wg 1 (pc' := 345) (lv' := [some (.ref 37), some (.ref 64), some (.ref 216), some (.ref 243), some (.int i), none, none]) (st' := [.ref 64]) (h' := h) rfl ?_
      obtain ⟨e54, v52, h51, e53, hf⟩ := zo_v_s hf
      refine zt_cv zq_m59 [] [] rfl rfl rfl rfl rfl rfl (Nat.le_of_ble_eq_true rfl) (Nat.le_of_ble_eq_true rfl) e54 (zx_war_ok sc d (by omega) e53) ?_
      refine zt_wg 0 (pc' := 348) (lv' := [some (.ref 37), some (.ref 64), some (.ref 216), some (.ref 243), some (.int i), none, none]) (st' := [.int v52]) (h' := h51) rfl ?_
      refine zt_wg 1 (pc' := 349) (lv' := [some (.ref 37), some (.ref 64), some (.ref 216), some (.ref 243), some (.int i), none, none]) (st' := [.ref 216, .int v52]) (h' := h51) rfl ?_
      obtain ⟨e58, v56, h55, e57, hf⟩ := zo_v_s hf
      refine zt_cv zq_m185 [] [.int v52] rfl rfl rfl rfl rfl rfl (Nat.le_of_ble_eq_true rfl) (Nat.le_of_ble_eq_true rfl) e58 (zm_war_ok sc d (by omega) e57) ?_
      refine zt_wg 0 (pc' := 352) (lv' := [some (.ref 37), some (.ref 64), some (.ref 216), some (.ref 243), some (.int i), none, none]) (st' := [.int v56, .int v52]) (h' := h55) rfl ?_
      refine zt_if (v52 = v56) 1249 355 (st' := []) rfl rfl rfl (fun b59 => ?_) (fun b59 => ?_)
      · have hf := zo_t hf b59
        exact zt_stop rfl rfl (by cases hf; exact ⟨rfl, rfl, rfl, rfl⟩)
      · have hf := zo_f hf b59
        refine zt_wg 1 (pc' := 356) (lv' := [some (.ref 37), some (.ref 64), some (.ref 216), some (.ref 243), some (.int i), none, none]) (st' := [.int (0 : Int32)]) (h' := h55) rfl ?_
        exact zt_stop rfl rfl (by cases hf; exact ⟨rfl, rfl, trivial⟩)
    have hf := zo_f hf b50
    by_cases b60 : (v4 &&& (31 : Int32)) = (3 : Int32)
    · have hf := zo_t hf b60
      refine zt_ts (t := 357) rfl rfl (by rw [b60]; rfl) ?_
      refine zt_wg 5 (pc' := 363) (lv' := [some (.ref 37), some (.ref 64), some (.ref 216), some (.ref 243), some (.int i), none, none]) (st' := [.int (i + (1 : Int32)), .ref 37, .ref 64]) (h' := h) rfl ?_
      obtain ⟨v61, e62, hf⟩ := zo_b_s hf
      refine zt_iald rfl rfl e62 ?_
      refine zt_wg 4 (pc' := 369) (lv' := [some (.ref 37), some (.ref 64), some (.ref 216), some (.ref 243), some (.int i), none, none]) (st' := [.int (i + (2 : Int32)), .ref 37, .int v61, .ref 64]) (h' := h) rfl ?_
      obtain ⟨v63, e64, hf⟩ := zo_b_s hf
      refine zt_iald rfl rfl e64 ?_
      obtain ⟨e68, v66, h65, e67, hf⟩ := zo_v_s hf
      refine zt_cv zq_m65 [.int v61, .int v63] [] rfl rfl rfl rfl rfl rfl (Nat.le_of_ble_eq_true rfl) (Nat.le_of_ble_eq_true rfl) e68 (zx_post_ok sc d (by omega) e67) ?_
      refine zt_wg 0 (pc' := 373) (lv' := [some (.ref 37), some (.ref 64), some (.ref 216), some (.ref 243), some (.int i), none, none]) (st' := [.int v66]) (h' := h65) rfl ?_
      refine zt_wg 5 (pc' := 379) (lv' := [some (.ref 37), some (.ref 64), some (.ref 216), some (.ref 243), some (.int i), none, none]) (st' := [.int (i + (1 : Int32)), .ref 37, .ref 216, .int v66]) (h' := h65) rfl ?_
      obtain ⟨v69, e70, hf⟩ := zo_b_s hf
      refine zt_iald rfl rfl e70 ?_
      refine zt_wg 4 (pc' := 385) (lv' := [some (.ref 37), some (.ref 64), some (.ref 216), some (.ref 243), some (.int i), none, none]) (st' := [.int (i + (2 : Int32)), .ref 37, .int v69, .ref 216, .int v66]) (h' := h65) rfl ?_
      obtain ⟨v71, e72, hf⟩ := zo_b_s hf
      refine zt_iald rfl rfl e72 ?_
      obtain ⟨e76, v74, h73, e75, hf⟩ := zo_v_s hf
      refine zt_cv zq_m187 [.int v69, .int v71] [.int v66] rfl rfl rfl rfl rfl rfl (Nat.le_of_ble_eq_true rfl) (Nat.le_of_ble_eq_true rfl) e76 (zm_post_ok sc d (by omega) e75) ?_
      refine zt_wg 0 (pc' := 389) (lv' := [some (.ref 37), some (.ref 64), some (.ref 216), some (.ref 243), some (.int i), none, none]) (st' := [.int v74, .int v66]) (h' := h73) rfl ?_
      refine zt_if (v66 = v74) 1249 392 (st' := []) rfl rfl rfl (fun b77 => ?_) (fun b77 => ?_)
      · have hf := zo_t hf b77
        exact zt_stop rfl rfl (by cases hf; exact ⟨rfl, rfl, rfl, rfl⟩)
      · have hf := zo_f hf b77
        refine zt_wg 1 (pc' := 393) (lv' := [some (.ref 37), some (.ref 64), some (.ref 216), some (.ref 243), some (.int i), none, none]) (st' := [.int (0 : Int32)]) (h' := h73) rfl ?_
        exact zt_stop rfl rfl (by cases hf; exact ⟨rfl, rfl, trivial⟩)
    have hf := zo_f hf b60
    by_cases b78 : (v4 &&& (31 : Int32)) = (4 : Int32)
    · have hf := zo_t hf b78
      refine zt_ts (t := 394) rfl rfl (by rw [b78]; rfl) ?_
      refine zt_wg 5 (pc' := 400) (lv' := [some (.ref 37), some (.ref 64), some (.ref 216), some (.ref 243), some (.int i), none, none]) (st' := [.int (i + (1 : Int32)), .ref 37, .ref 64]) (h' := h) rfl ?_
      obtain ⟨v79, e80, hf⟩ := zo_b_s hf
      refine zt_iald rfl rfl e80 ?_
      refine zt_wg 4 (pc' := 406) (lv' := [some (.ref 37), some (.ref 64), some (.ref 216), some (.ref 243), some (.int i), none, none]) (st' := [.int (i + (2 : Int32)), .ref 37, .int v79, .ref 64]) (h' := h) rfl ?_
      obtain ⟨v81, e82, hf⟩ := zo_b_s hf
      refine zt_iald rfl rfl e82 ?_
      obtain ⟨e86, v84, h83, e85, hf⟩ := zo_v_s hf
      refine zt_cv zq_m70 [.int v79, .int v81] [] rfl rfl rfl rfl rfl rfl (Nat.le_of_ble_eq_true rfl) (Nat.le_of_ble_eq_true rfl) e86 (zx_man_ok sc d (by omega) e85) ?_
      refine zt_wg 0 (pc' := 410) (lv' := [some (.ref 37), some (.ref 64), some (.ref 216), some (.ref 243), some (.int i), none, none]) (st' := [.int v84]) (h' := h83) rfl ?_
      refine zt_wg 5 (pc' := 416) (lv' := [some (.ref 37), some (.ref 64), some (.ref 216), some (.ref 243), some (.int i), none, none]) (st' := [.int (i + (1 : Int32)), .ref 37, .ref 216, .int v84]) (h' := h83) rfl ?_
      obtain ⟨v87, e88, hf⟩ := zo_b_s hf
      refine zt_iald rfl rfl e88 ?_
      refine zt_wg 4 (pc' := 422) (lv' := [some (.ref 37), some (.ref 64), some (.ref 216), some (.ref 243), some (.int i), none, none]) (st' := [.int (i + (2 : Int32)), .ref 37, .int v87, .ref 216, .int v84]) (h' := h83) rfl ?_
      obtain ⟨v89, e90, hf⟩ := zo_b_s hf
      refine zt_iald rfl rfl e90 ?_
      obtain ⟨e94, v92, h91, e93, hf⟩ := zo_v_s hf
      refine zt_cv zq_m197 [.int v87, .int v89] [.int v84] rfl rfl rfl rfl rfl rfl (Nat.le_of_ble_eq_true rfl) (Nat.le_of_ble_eq_true rfl) e94 (zm_man_ok sc d (by omega) e93) ?_
      refine zt_wg 0 (pc' := 426) (lv' := [some (.ref 37), some (.ref 64), some (.ref 216), some (.ref 243), some (.int i), none, none]) (st' := [.int v92, .int v84]) (h' := h91) rfl ?_
      refine zt_if (v84 = v92) 1249 429 (st' := []) rfl rfl rfl (fun b95 => ?_) (fun b95 => ?_)
      · have hf := zo_t hf b95
        exact zt_stop rfl rfl (by cases hf; exact ⟨rfl, rfl, rfl, rfl⟩)
      · have hf := zo_f hf b95
        refine zt_wg 1 (pc' := 430) (lv' := [some (.ref 37), some (.ref 64), some (.ref 216), some (.ref 243), some (.int i), none, none]) (st' := [.int (0 : Int32)]) (h' := h91) rfl ?_
        exact zt_stop rfl rfl (by cases hf; exact ⟨rfl, rfl, trivial⟩)
    have hf := zo_f hf b78
    by_cases b96 : (v4 &&& (31 : Int32)) = (5 : Int32)
    · have hf := zo_t hf b96
      refine zt_ts (t := 431) rfl rfl (by rw [b96]; rfl) ?_
      refine zt_wg 5 (pc' := 437) (lv' := [some (.ref 37), some (.ref 64), some (.ref 216), some (.ref 243), some (.int i), none, none]) (st' := [.int (i + (1 : Int32)), .ref 37, .ref 64]) (h' := h) rfl ?_
      obtain ⟨v97, e98, hf⟩ := zo_b_s hf
      refine zt_iald rfl rfl e98 ?_
      refine zt_wg 4 (pc' := 443) (lv' := [some (.ref 37), some (.ref 64), some (.ref 216), some (.ref 243), some (.int i), none, none]) (st' := [.int (i + (2 : Int32)), .ref 37, .int v97, .ref 64]) (h' := h) rfl ?_
      obtain ⟨v99, e100, hf⟩ := zo_b_s hf
      refine zt_iald rfl rfl e100 ?_
      obtain ⟨e104, v102, h101, e103, hf⟩ := zo_v_s hf
      refine zt_cv zq_m72 [.int v97, .int v99] [] rfl rfl rfl rfl rfl rfl (Nat.le_of_ble_eq_true rfl) (Nat.le_of_ble_eq_true rfl) e104 (zx_skill_ok sc d (by omega) e103) ?_
      refine zt_wg 0 (pc' := 447) (lv' := [some (.ref 37), some (.ref 64), some (.ref 216), some (.ref 243), some (.int i), none, none]) (st' := [.int v102]) (h' := h101) rfl ?_
      refine zt_wg 5 (pc' := 453) (lv' := [some (.ref 37), some (.ref 64), some (.ref 216), some (.ref 243), some (.int i), none, none]) (st' := [.int (i + (1 : Int32)), .ref 37, .ref 216, .int v102]) (h' := h101) rfl ?_
      obtain ⟨v105, e106, hf⟩ := zo_b_s hf
      refine zt_iald rfl rfl e106 ?_
      refine zt_wg 4 (pc' := 459) (lv' := [some (.ref 37), some (.ref 64), some (.ref 216), some (.ref 243), some (.int i), none, none]) (st' := [.int (i + (2 : Int32)), .ref 37, .int v105, .ref 216, .int v102]) (h' := h101) rfl ?_
      obtain ⟨v107, e108, hf⟩ := zo_b_s hf
      refine zt_iald rfl rfl e108 ?_
      obtain ⟨e112, v110, h109, e111, hf⟩ := zo_v_s hf
      refine zt_cv zq_m200 [.int v105, .int v107] [.int v102] rfl rfl rfl rfl rfl rfl (Nat.le_of_ble_eq_true rfl) (Nat.le_of_ble_eq_true rfl) e112 (zm_skill_ok sc d (by omega) e111) ?_
      refine zt_wg 0 (pc' := 463) (lv' := [some (.ref 37), some (.ref 64), some (.ref 216), some (.ref 243), some (.int i), none, none]) (st' := [.int v110, .int v102]) (h' := h109) rfl ?_
      refine zt_if (v102 = v110) 1249 466 (st' := []) rfl rfl rfl (fun b113 => ?_) (fun b113 => ?_)
      · have hf := zo_t hf b113
        exact zt_stop rfl rfl (by cases hf; exact ⟨rfl, rfl, rfl, rfl⟩)
      · have hf := zo_f hf b113
        refine zt_wg 1 (pc' := 467) (lv' := [some (.ref 37), some (.ref 64), some (.ref 216), some (.ref 243), some (.int i), none, none]) (st' := [.int (0 : Int32)]) (h' := h109) rfl ?_
        exact zt_stop rfl rfl (by cases hf; exact ⟨rfl, rfl, trivial⟩)
    have hf := zo_f hf b96
    by_cases b114 : (v4 &&& (31 : Int32)) = (6 : Int32)
    · have hf := zo_t hf b114
      refine zt_ts (t := 468) rfl rfl (by rw [b114]; rfl) ?_
      refine zt_wg 1 (pc' := 469) (lv' := [some (.ref 37), some (.ref 64), some (.ref 216), some (.ref 243), some (.int i), none, none]) (st' := [.ref 64]) (h' := h) rfl ?_
      obtain ⟨e118, v116, h115, e117, hf⟩ := zo_v_s hf
      refine zt_cv zq_m73 [] [] rfl rfl rfl rfl rfl rfl (Nat.le_of_ble_eq_true rfl) (Nat.le_of_ble_eq_true rfl) e118 (zx_ours_ok sc d (by omega) e117) ?_
      refine zt_wg 0 (pc' := 472) (lv' := [some (.ref 37), some (.ref 64), some (.ref 216), some (.ref 243), some (.int i), none, none]) (st' := [.int v116]) (h' := h115) rfl ?_
      refine zt_wg 1 (pc' := 473) (lv' := [some (.ref 37), some (.ref 64), some (.ref 216), some (.ref 243), some (.int i), none, none]) (st' := [.ref 216, .int v116]) (h' := h115) rfl ?_
      obtain ⟨e122, v120, h119, e121, hf⟩ := zo_v_s hf
      refine zt_cv zq_m201 [] [.int v116] rfl rfl rfl rfl rfl rfl (Nat.le_of_ble_eq_true rfl) (Nat.le_of_ble_eq_true rfl) e122 (zm_ours_ok sc d (by omega) e121) ?_
      refine zt_wg 0 (pc' := 476) (lv' := [some (.ref 37), some (.ref 64), some (.ref 216), some (.ref 243), some (.int i), none, none]) (st' := [.int v120, .int v116]) (h' := h119) rfl ?_
      refine zt_if (v116 = v120) 1249 479 (st' := []) rfl rfl rfl (fun b123 => ?_) (fun b123 => ?_)
      · have hf := zo_t hf b123
        exact zt_stop rfl rfl (by cases hf; exact ⟨rfl, rfl, rfl, rfl⟩)
      · have hf := zo_f hf b123
        refine zt_wg 1 (pc' := 480) (lv' := [some (.ref 37), some (.ref 64), some (.ref 216), some (.ref 243), some (.int i), none, none]) (st' := [.int (0 : Int32)]) (h' := h119) rfl ?_
        exact zt_stop rfl rfl (by cases hf; exact ⟨rfl, rfl, trivial⟩)
    have hf := zo_f hf b114
    by_cases b124 : (v4 &&& (31 : Int32)) = (7 : Int32)
    · have hf := zo_t hf b124
      refine zt_ts (t := 481) rfl rfl (by rw [b124]; rfl) ?_
      refine zt_wg 5 (pc' := 487) (lv' := [some (.ref 37), some (.ref 64), some (.ref 216), some (.ref 243), some (.int i), none, none]) (st' := [.int (i + (1 : Int32)), .ref 37, .ref 64]) (h' := h) rfl ?_
      obtain ⟨v125, e126, hf⟩ := zo_b_s hf
      refine zt_iald rfl rfl e126 ?_
      obtain ⟨e130, v128, h127, e129, hf⟩ := zo_v_s hf
      refine zt_cv zq_m76 [.int v125] [] rfl rfl rfl rfl rfl rfl (Nat.le_of_ble_eq_true rfl) (Nat.le_of_ble_eq_true rfl) e130 (zx_draw_ok sc d (by omega) e129) ?_
      refine zt_wg 0 (pc' := 491) (lv' := [some (.ref 37), some (.ref 64), some (.ref 216), some (.ref 243), some (.int i), none, none]) (st' := [.int v128]) (h' := h127) rfl ?_
      refine zt_wg 5 (pc' := 497) (lv' := [some (.ref 37), some (.ref 64), some (.ref 216), some (.ref 243), some (.int i), none, none]) (st' := [.int (i + (1 : Int32)), .ref 37, .ref 216, .int v128]) (h' := h127) rfl ?_
      obtain ⟨v131, e132, hf⟩ := zo_b_s hf
      refine zt_iald rfl rfl e132 ?_
      obtain ⟨e136, v134, h133, e135, hf⟩ := zo_v_s hf
      refine zt_cv zq_m204 [.int v131] [.int v128] rfl rfl rfl rfl rfl rfl (Nat.le_of_ble_eq_true rfl) (Nat.le_of_ble_eq_true rfl) e136 (zm_draw_ok sc d (by omega) e135) ?_
      refine zt_wg 0 (pc' := 501) (lv' := [some (.ref 37), some (.ref 64), some (.ref 216), some (.ref 243), some (.int i), none, none]) (st' := [.int v134, .int v128]) (h' := h133) rfl ?_
      refine zt_if (v128 = v134) 1249 504 (st' := []) rfl rfl rfl (fun b137 => ?_) (fun b137 => ?_)
      · have hf := zo_t hf b137
        exact zt_stop rfl rfl (by cases hf; exact ⟨rfl, rfl, rfl, rfl⟩)
      · have hf := zo_f hf b137
        refine zt_wg 1 (pc' := 505) (lv' := [some (.ref 37), some (.ref 64), some (.ref 216), some (.ref 243), some (.int i), none, none]) (st' := [.int (0 : Int32)]) (h' := h133) rfl ?_
        exact zt_stop rfl rfl (by cases hf; exact ⟨rfl, rfl, trivial⟩)
    have hf := zo_f hf b124
    by_cases b138 : (v4 &&& (31 : Int32)) = (8 : Int32)
    · have hf := zo_t hf b138
      refine zt_ts (t := 506) rfl rfl (by rw [b138]; rfl) ?_
      refine zt_wg 5 (pc' := 512) (lv' := [some (.ref 37), some (.ref 64), some (.ref 216), some (.ref 243), some (.int i), none, none]) (st' := [.int (i + (1 : Int32)), .ref 37, .ref 64]) (h' := h) rfl ?_
      obtain ⟨v139, e140, hf⟩ := zo_b_s hf
      refine zt_iald rfl rfl e140 ?_
      refine zt_wg 4 (pc' := 518) (lv' := [some (.ref 37), some (.ref 64), some (.ref 216), some (.ref 243), some (.int i), none, none]) (st' := [.int (i + (2 : Int32)), .ref 37, .int v139, .ref 64]) (h' := h) rfl ?_
      obtain ⟨v141, e142, hf⟩ := zo_b_s hf
      refine zt_iald rfl rfl e142 ?_
      refine zt_wg 4 (pc' := 524) (lv' := [some (.ref 37), some (.ref 64), some (.ref 216), some (.ref 243), some (.int i), none, none]) (st' := [.int (i + (3 : Int32)), .ref 37, .int v141, .int v139, .ref 64]) (h' := h) rfl ?_
      obtain ⟨v143, e144, hf⟩ := zo_b_s hf
      refine zt_iald rfl rfl e144 ?_
      obtain ⟨e148, v146, h145, e147, hf⟩ := zo_v_s hf
      refine zt_cv zq_m82 [.int v139, .int v141, .int v143] [] rfl rfl rfl rfl rfl rfl (Nat.le_of_ble_eq_true rfl) (Nat.le_of_ble_eq_true rfl) e148 (zx_sell_ok sc d (by omega) e147) ?_
      refine zt_wg 0 (pc' := 528) (lv' := [some (.ref 37), some (.ref 64), some (.ref 216), some (.ref 243), some (.int i), none, none]) (st' := [.int v146]) (h' := h145) rfl ?_
      refine zt_wg 5 (pc' := 534) (lv' := [some (.ref 37), some (.ref 64), some (.ref 216), some (.ref 243), some (.int i), none, none]) (st' := [.int (i + (1 : Int32)), .ref 37, .ref 216, .int v146]) (h' := h145) rfl ?_
      obtain ⟨v149, e150, hf⟩ := zo_b_s hf
      refine zt_iald rfl rfl e150 ?_
      refine zt_wg 4 (pc' := 540) (lv' := [some (.ref 37), some (.ref 64), some (.ref 216), some (.ref 243), some (.int i), none, none]) (st' := [.int (i + (2 : Int32)), .ref 37, .int v149, .ref 216, .int v146]) (h' := h145) rfl ?_
      obtain ⟨v151, e152, hf⟩ := zo_b_s hf
      refine zt_iald rfl rfl e152 ?_
      refine zt_wg 4 (pc' := 546) (lv' := [some (.ref 37), some (.ref 64), some (.ref 216), some (.ref 243), some (.int i), none, none]) (st' := [.int (i + (3 : Int32)), .ref 37, .int v151, .int v149, .ref 216, .int v146]) (h' := h145) rfl ?_
      obtain ⟨v153, e154, hf⟩ := zo_b_s hf
      refine zt_iald rfl rfl e154 ?_
      obtain ⟨e158, v156, h155, e157, hf⟩ := zo_v_s hf
      refine zt_cv zq_m209 [.int v149, .int v151, .int v153] [.int v146] rfl rfl rfl rfl rfl rfl (Nat.le_of_ble_eq_true rfl) (Nat.le_of_ble_eq_true rfl) e158 (zm_sell_ok sc d (by omega) e157) ?_
      refine zt_wg 0 (pc' := 550) (lv' := [some (.ref 37), some (.ref 64), some (.ref 216), some (.ref 243), some (.int i), none, none]) (st' := [.int v156, .int v146]) (h' := h155) rfl ?_
      refine zt_if (v146 = v156) 1249 553 (st' := []) rfl rfl rfl (fun b159 => ?_) (fun b159 => ?_)
      · have hf := zo_t hf b159
        exact zt_stop rfl rfl (by cases hf; exact ⟨rfl, rfl, rfl, rfl⟩)
      · have hf := zo_f hf b159
        refine zt_wg 1 (pc' := 554) (lv' := [some (.ref 37), some (.ref 64), some (.ref 216), some (.ref 243), some (.int i), none, none]) (st' := [.int (0 : Int32)]) (h' := h155) rfl ?_
        exact zt_stop rfl rfl (by cases hf; exact ⟨rfl, rfl, trivial⟩)
    have hf := zo_f hf b138
    by_cases b160 : (v4 &&& (31 : Int32)) = (9 : Int32)
    · have hf := zo_t hf b160
      refine zt_ts (t := 555) rfl rfl (by rw [b160]; rfl) ?_
      refine zt_wg 5 (pc' := 561) (lv' := [some (.ref 37), some (.ref 64), some (.ref 216), some (.ref 243), some (.int i), none, none]) (st' := [.int (i + (1 : Int32)), .ref 37, .ref 64]) (h' := h) rfl ?_
      obtain ⟨v161, e162, hf⟩ := zo_b_s hf
      refine zt_iald rfl rfl e162 ?_
      obtain ⟨e166, v164, h163, e165, hf⟩ := zo_v_s hf
      refine zt_cv zq_m85 [.int v161] [] rfl rfl rfl rfl rfl rfl (Nat.le_of_ble_eq_true rfl) (Nat.le_of_ble_eq_true rfl) e166 (zx_order_ok sc d (by omega) e165) ?_
      refine zt_wg 0 (pc' := 565) (lv' := [some (.ref 37), some (.ref 64), some (.ref 216), some (.ref 243), some (.int i), none, none]) (st' := [.int v164]) (h' := h163) rfl ?_
      refine zt_wg 5 (pc' := 571) (lv' := [some (.ref 37), some (.ref 64), some (.ref 216), some (.ref 243), some (.int i), none, none]) (st' := [.int (i + (1 : Int32)), .ref 37, .ref 216, .int v164]) (h' := h163) rfl ?_
      obtain ⟨v167, e168, hf⟩ := zo_b_s hf
      refine zt_iald rfl rfl e168 ?_
      obtain ⟨e172, v170, h169, e171, hf⟩ := zo_v_s hf
      refine zt_cv zq_m212 [.int v167] [.int v164] rfl rfl rfl rfl rfl rfl (Nat.le_of_ble_eq_true rfl) (Nat.le_of_ble_eq_true rfl) e172 (zm_order_ok sc d (by omega) e171) ?_
      refine zt_wg 0 (pc' := 575) (lv' := [some (.ref 37), some (.ref 64), some (.ref 216), some (.ref 243), some (.int i), none, none]) (st' := [.int v170, .int v164]) (h' := h169) rfl ?_
      refine zt_if (v164 = v170) 1249 578 (st' := []) rfl rfl rfl (fun b173 => ?_) (fun b173 => ?_)
      · have hf := zo_t hf b173
        exact zt_stop rfl rfl (by cases hf; exact ⟨rfl, rfl, rfl, rfl⟩)
      · have hf := zo_f hf b173
        refine zt_wg 1 (pc' := 579) (lv' := [some (.ref 37), some (.ref 64), some (.ref 216), some (.ref 243), some (.int i), none, none]) (st' := [.int (0 : Int32)]) (h' := h169) rfl ?_
        exact zt_stop rfl rfl (by cases hf; exact ⟨rfl, rfl, trivial⟩)
    have hf := zo_f hf b160
    by_cases b174 : (v4 &&& (31 : Int32)) = (10 : Int32)
    · have hf := zo_t hf b174
      refine zt_ts (t := 580) rfl rfl (by rw [b174]; rfl) ?_
      refine zt_wg 5 (pc' := 586) (lv' := [some (.ref 37), some (.ref 64), some (.ref 216), some (.ref 243), some (.int i), none, none]) (st' := [.int (i + (1 : Int32)), .ref 37, .ref 64]) (h' := h) rfl ?_
      obtain ⟨v175, e176, hf⟩ := zo_b_s hf
      refine zt_iald rfl rfl e176 ?_
      obtain ⟨e180, v178, h177, e179, hf⟩ := zo_v_s hf
      refine zt_cv zq_m87 [.int v175] [] rfl rfl rfl rfl rfl rfl (Nat.le_of_ble_eq_true rfl) (Nat.le_of_ble_eq_true rfl) e180 (zx_weeks_ok sc d (by omega) e179) ?_
      refine zt_wg 0 (pc' := 590) (lv' := [some (.ref 37), some (.ref 64), some (.ref 216), some (.ref 243), some (.int i), none, none]) (st' := [.int v178]) (h' := h177) rfl ?_
      refine zt_wg 5 (pc' := 596) (lv' := [some (.ref 37), some (.ref 64), some (.ref 216), some (.ref 243), some (.int i), none, none]) (st' := [.int (i + (1 : Int32)), .ref 37, .ref 216, .int v178]) (h' := h177) rfl ?_
      obtain ⟨v181, e182, hf⟩ := zo_b_s hf
      refine zt_iald rfl rfl e182 ?_
      obtain ⟨e186, v184, h183, e185, hf⟩ := zo_v_s hf
      refine zt_cv zq_m213 [.int v181] [.int v178] rfl rfl rfl rfl rfl rfl (Nat.le_of_ble_eq_true rfl) (Nat.le_of_ble_eq_true rfl) e186 (zm_weeks_ok sc d (by omega) e185) ?_
      refine zt_wg 0 (pc' := 600) (lv' := [some (.ref 37), some (.ref 64), some (.ref 216), some (.ref 243), some (.int i), none, none]) (st' := [.int v184, .int v178]) (h' := h183) rfl ?_
      refine zt_if (v178 = v184) 1249 603 (st' := []) rfl rfl rfl (fun b187 => ?_) (fun b187 => ?_)
      · have hf := zo_t hf b187
        exact zt_stop rfl rfl (by cases hf; exact ⟨rfl, rfl, rfl, rfl⟩)
      · have hf := zo_f hf b187
        refine zt_wg 1 (pc' := 604) (lv' := [some (.ref 37), some (.ref 64), some (.ref 216), some (.ref 243), some (.int i), none, none]) (st' := [.int (0 : Int32)]) (h' := h183) rfl ?_
        exact zt_stop rfl rfl (by cases hf; exact ⟨rfl, rfl, trivial⟩)
    have hf := zo_f hf b174
    by_cases b188 : (v4 &&& (31 : Int32)) = (11 : Int32)
    · have hf := zo_t hf b188
      refine zt_ts (t := 605) rfl rfl (by rw [b188]; rfl) ?_
      refine zt_wg 1 (pc' := 606) (lv' := [some (.ref 37), some (.ref 64), some (.ref 216), some (.ref 243), some (.int i), none, none]) (st' := [.ref 64]) (h' := h) rfl ?_
      obtain ⟨e192, v190, h189, e191, hf⟩ := zo_v_s hf
      refine zt_cv zq_m93 [] [] rfl rfl rfl rfl rfl rfl (Nat.le_of_ble_eq_true rfl) (Nat.le_of_ble_eq_true rfl) e192 (zx_undo_ok sc d (by omega) e191) ?_
      refine zt_wg 0 (pc' := 609) (lv' := [some (.ref 37), some (.ref 64), some (.ref 216), some (.ref 243), some (.int i), none, none]) (st' := [.int v190]) (h' := h189) rfl ?_
      refine zt_wg 1 (pc' := 610) (lv' := [some (.ref 37), some (.ref 64), some (.ref 216), some (.ref 243), some (.int i), none, none]) (st' := [.ref 216, .int v190]) (h' := h189) rfl ?_
      obtain ⟨e196, v194, h193, e195, hf⟩ := zo_v_s hf
      refine zt_cv zq_m220 [] [.int v190] rfl rfl rfl rfl rfl rfl (Nat.le_of_ble_eq_true rfl) (Nat.le_of_ble_eq_true rfl) e196 (zm_undo_ok sc d (by omega) e195) ?_
      refine zt_wg 0 (pc' := 613) (lv' := [some (.ref 37), some (.ref 64), some (.ref 216), some (.ref 243), some (.int i), none, none]) (st' := [.int v194, .int v190]) (h' := h193) rfl ?_
      refine zt_if (v190 = v194) 1249 616 (st' := []) rfl rfl rfl (fun b197 => ?_) (fun b197 => ?_)
      · have hf := zo_t hf b197
        exact zt_stop rfl rfl (by cases hf; exact ⟨rfl, rfl, rfl, rfl⟩)
      · have hf := zo_f hf b197
        refine zt_wg 1 (pc' := 617) (lv' := [some (.ref 37), some (.ref 64), some (.ref 216), some (.ref 243), some (.int i), none, none]) (st' := [.int (0 : Int32)]) (h' := h193) rfl ?_
        exact zt_stop rfl rfl (by cases hf; exact ⟨rfl, rfl, trivial⟩)
    have hf := zo_f hf b188
    by_cases b198 : (v4 &&& (31 : Int32)) = (12 : Int32)
    · have hf := zo_t hf b198
      refine zt_ts (t := 618) rfl rfl (by rw [b198]; rfl) ?_
      refine zt_wg 5 (pc' := 624) (lv' := [some (.ref 37), some (.ref 64), some (.ref 216), some (.ref 243), some (.int i), none, none]) (st' := [.int (i + (1 : Int32)), .ref 37, .ref 64]) (h' := h) rfl ?_
      obtain ⟨v199, e200, hf⟩ := zo_b_s hf
      refine zt_iald rfl rfl e200 ?_
      obtain ⟨e204, v202, h201, e203, hf⟩ := zo_v_s hf
      refine zt_cv zq_m94 [.int v199] [] rfl rfl rfl rfl rfl rfl (Nat.le_of_ble_eq_true rfl) (Nat.le_of_ble_eq_true rfl) e204 (zx_judged_ok sc d (by omega) e203) ?_
      refine zt_wg 0 (pc' := 628) (lv' := [some (.ref 37), some (.ref 64), some (.ref 216), some (.ref 243), some (.int i), none, none]) (st' := [.int v202]) (h' := h201) rfl ?_
      refine zt_wg 5 (pc' := 634) (lv' := [some (.ref 37), some (.ref 64), some (.ref 216), some (.ref 243), some (.int i), none, none]) (st' := [.int (i + (1 : Int32)), .ref 37, .ref 216, .int v202]) (h' := h201) rfl ?_
      obtain ⟨v205, e206, hf⟩ := zo_b_s hf
      refine zt_iald rfl rfl e206 ?_
      obtain ⟨e210, v208, h207, e209, hf⟩ := zo_v_s hf
      refine zt_cv zq_m221 [.int v205] [.int v202] rfl rfl rfl rfl rfl rfl (Nat.le_of_ble_eq_true rfl) (Nat.le_of_ble_eq_true rfl) e210 (zm_judged_ok sc d (by omega) e209) ?_
      refine zt_wg 0 (pc' := 638) (lv' := [some (.ref 37), some (.ref 64), some (.ref 216), some (.ref 243), some (.int i), none, none]) (st' := [.int v208, .int v202]) (h' := h207) rfl ?_
      refine zt_if (v202 = v208) 1249 641 (st' := []) rfl rfl rfl (fun b211 => ?_) (fun b211 => ?_)
      · have hf := zo_t hf b211
        exact zt_stop rfl rfl (by cases hf; exact ⟨rfl, rfl, rfl, rfl⟩)
      · have hf := zo_f hf b211
        refine zt_wg 1 (pc' := 642) (lv' := [some (.ref 37), some (.ref 64), some (.ref 216), some (.ref 243), some (.int i), none, none]) (st' := [.int (0 : Int32)]) (h' := h207) rfl ?_
        exact zt_stop rfl rfl (by cases hf; exact ⟨rfl, rfl, trivial⟩)
    have hf := zo_f hf b198
    by_cases b212 : (v4 &&& (31 : Int32)) = (13 : Int32)
    · have hf := zo_t hf b212
      refine zt_ts (t := 643) rfl rfl (by rw [b212]; rfl) ?_
      refine zt_wg 1 (pc' := 644) (lv' := [some (.ref 37), some (.ref 64), some (.ref 216), some (.ref 243), some (.int i), none, none]) (st' := [.ref 64]) (h' := h) rfl ?_
      obtain ⟨e216, v214, h213, e215, hf⟩ := zo_v_s hf
      refine zt_cv zq_m97 [] [] rfl rfl rfl rfl rfl rfl (Nat.le_of_ble_eq_true rfl) (Nat.le_of_ble_eq_true rfl) e216 (zx_first_ok sc d (by omega) e215) ?_
      refine zt_wg 0 (pc' := 647) (lv' := [some (.ref 37), some (.ref 64), some (.ref 216), some (.ref 243), some (.int i), none, none]) (st' := [.int v214]) (h' := h213) rfl ?_
      refine zt_wg 1 (pc' := 648) (lv' := [some (.ref 37), some (.ref 64), some (.ref 216), some (.ref 243), some (.int i), none, none]) (st' := [.ref 216, .int v214]) (h' := h213) rfl ?_
      obtain ⟨e220, v218, h217, e219, hf⟩ := zo_v_s hf
      refine zt_cv zq_m223 [] [.int v214] rfl rfl rfl rfl rfl rfl (Nat.le_of_ble_eq_true rfl) (Nat.le_of_ble_eq_true rfl) e220 (zm_first_ok sc d (by omega) e219) ?_
      refine zt_wg 0 (pc' := 651) (lv' := [some (.ref 37), some (.ref 64), some (.ref 216), some (.ref 243), some (.int i), none, none]) (st' := [.int v218, .int v214]) (h' := h217) rfl ?_
      refine zt_if (v214 = v218) 1249 654 (st' := []) rfl rfl rfl (fun b221 => ?_) (fun b221 => ?_)
      · have hf := zo_t hf b221
        exact zt_stop rfl rfl (by cases hf; exact ⟨rfl, rfl, rfl, rfl⟩)
      · have hf := zo_f hf b221
        refine zt_wg 1 (pc' := 655) (lv' := [some (.ref 37), some (.ref 64), some (.ref 216), some (.ref 243), some (.int i), none, none]) (st' := [.int (0 : Int32)]) (h' := h217) rfl ?_
        exact zt_stop rfl rfl (by cases hf; exact ⟨rfl, rfl, trivial⟩)
    have hf := zo_f hf b212
    by_cases b222 : (v4 &&& (31 : Int32)) = (14 : Int32)
    · have hf := zo_t hf b222
      refine zt_ts (t := 656) rfl rfl (by rw [b222]; rfl) ?_
      refine zt_wg 5 (pc' := 662) (lv' := [some (.ref 37), some (.ref 64), some (.ref 216), some (.ref 243), some (.int i), none, none]) (st' := [.int (i + (1 : Int32)), .ref 37, .ref 64]) (h' := h) rfl ?_
      obtain ⟨v223, e224, hf⟩ := zo_b_s hf
      refine zt_iald rfl rfl e224 ?_
      obtain ⟨e228, v226, h225, e227, hf⟩ := zo_v_s hf
      refine zt_cv zq_m98 [.int v223] [] rfl rfl rfl rfl rfl rfl (Nat.le_of_ble_eq_true rfl) (Nat.le_of_ble_eq_true rfl) e228 (zx_best_ok sc d (by omega) e227) ?_
      refine zt_wg 0 (pc' := 666) (lv' := [some (.ref 37), some (.ref 64), some (.ref 216), some (.ref 243), some (.int i), none, none]) (st' := [.int v226]) (h' := h225) rfl ?_
      refine zt_wg 5 (pc' := 672) (lv' := [some (.ref 37), some (.ref 64), some (.ref 216), some (.ref 243), some (.int i), none, none]) (st' := [.int (i + (1 : Int32)), .ref 37, .ref 216, .int v226]) (h' := h225) rfl ?_
      obtain ⟨v229, e230, hf⟩ := zo_b_s hf
      refine zt_iald rfl rfl e230 ?_
      obtain ⟨e234, v232, h231, e233, hf⟩ := zo_v_s hf
      refine zt_cv zq_m224 [.int v229] [.int v226] rfl rfl rfl rfl rfl rfl (Nat.le_of_ble_eq_true rfl) (Nat.le_of_ble_eq_true rfl) e234 (zm_best_ok sc d (by omega) e233) ?_
      refine zt_wg 0 (pc' := 676) (lv' := [some (.ref 37), some (.ref 64), some (.ref 216), some (.ref 243), some (.int i), none, none]) (st' := [.int v232, .int v226]) (h' := h231) rfl ?_
      refine zt_if (v226 = v232) 1249 679 (st' := []) rfl rfl rfl (fun b235 => ?_) (fun b235 => ?_)
      · have hf := zo_t hf b235
        exact zt_stop rfl rfl (by cases hf; exact ⟨rfl, rfl, rfl, rfl⟩)
      · have hf := zo_f hf b235
        refine zt_wg 1 (pc' := 680) (lv' := [some (.ref 37), some (.ref 64), some (.ref 216), some (.ref 243), some (.int i), none, none]) (st' := [.int (0 : Int32)]) (h' := h231) rfl ?_
        exact zt_stop rfl rfl (by cases hf; exact ⟨rfl, rfl, trivial⟩)
    have hf := zo_f hf b222
    by_cases b236 : (v4 &&& (31 : Int32)) = (15 : Int32)
    · have hf := zo_t hf b236
      refine zt_ts (t := 681) rfl rfl (by rw [b236]; rfl) ?_
      refine zt_wg 1 (pc' := 682) (lv' := [some (.ref 37), some (.ref 64), some (.ref 216), some (.ref 243), some (.int i), none, none]) (st' := [.ref 64]) (h' := h) rfl ?_
      obtain ⟨e240, v238, h237, e239, hf⟩ := zo_v_s hf
      refine zt_cv zq_m102 [] [] rfl rfl rfl rfl rfl rfl (Nat.le_of_ble_eq_true rfl) (Nat.le_of_ble_eq_true rfl) e240 (zx_mean_ok sc d (by omega) e239) ?_
      refine zt_wg 0 (pc' := 685) (lv' := [some (.ref 37), some (.ref 64), some (.ref 216), some (.ref 243), some (.int i), none, none]) (st' := [.int v238]) (h' := h237) rfl ?_
      refine zt_wg 1 (pc' := 686) (lv' := [some (.ref 37), some (.ref 64), some (.ref 216), some (.ref 243), some (.int i), none, none]) (st' := [.ref 216, .int v238]) (h' := h237) rfl ?_
      obtain ⟨e244, v242, h241, e243, hf⟩ := zo_v_s hf
      refine zt_cv zq_m229 [] [.int v238] rfl rfl rfl rfl rfl rfl (Nat.le_of_ble_eq_true rfl) (Nat.le_of_ble_eq_true rfl) e244 (zm_mean_ok sc d (by omega) e243) ?_
      refine zt_wg 0 (pc' := 689) (lv' := [some (.ref 37), some (.ref 64), some (.ref 216), some (.ref 243), some (.int i), none, none]) (st' := [.int v242, .int v238]) (h' := h241) rfl ?_
      refine zt_if (v238 = v242) 1249 692 (st' := []) rfl rfl rfl (fun b245 => ?_) (fun b245 => ?_)
      · have hf := zo_t hf b245
        exact zt_stop rfl rfl (by cases hf; exact ⟨rfl, rfl, rfl, rfl⟩)
      · have hf := zo_f hf b245
        refine zt_wg 1 (pc' := 693) (lv' := [some (.ref 37), some (.ref 64), some (.ref 216), some (.ref 243), some (.int i), none, none]) (st' := [.int (0 : Int32)]) (h' := h241) rfl ?_
        exact zt_stop rfl rfl (by cases hf; exact ⟨rfl, rfl, trivial⟩)
    have hf := zo_f hf b236
    by_cases b246 : (v4 &&& (31 : Int32)) = (16 : Int32)
    · have hf := zo_t hf b246
      refine zt_ts (t := 694) rfl rfl (by rw [b246]; rfl) ?_
      refine zt_wg 1 (pc' := 695) (lv' := [some (.ref 37), some (.ref 64), some (.ref 216), some (.ref 243), some (.int i), none, none]) (st' := [.ref 64]) (h' := h) rfl ?_
      obtain ⟨e250, v248, h247, e249, hf⟩ := zo_v_s hf
      refine zt_cv zq_m104 [] [] rfl rfl rfl rfl rfl rfl (Nat.le_of_ble_eq_true rfl) (Nat.le_of_ble_eq_true rfl) e250 (zx_loss_ok sc d (by omega) e249) ?_
      refine zt_wg 0 (pc' := 698) (lv' := [some (.ref 37), some (.ref 64), some (.ref 216), some (.ref 243), some (.int i), none, none]) (st' := [.int v248]) (h' := h247) rfl ?_
      refine zt_wg 1 (pc' := 699) (lv' := [some (.ref 37), some (.ref 64), some (.ref 216), some (.ref 243), some (.int i), none, none]) (st' := [.ref 216, .int v248]) (h' := h247) rfl ?_
      obtain ⟨e254, v252, h251, e253, hf⟩ := zo_v_s hf
      refine zt_cv zq_m230 [] [.int v248] rfl rfl rfl rfl rfl rfl (Nat.le_of_ble_eq_true rfl) (Nat.le_of_ble_eq_true rfl) e254 (zm_loss_ok sc d (by omega) e253) ?_
      refine zt_wg 0 (pc' := 702) (lv' := [some (.ref 37), some (.ref 64), some (.ref 216), some (.ref 243), some (.int i), none, none]) (st' := [.int v252, .int v248]) (h' := h251) rfl ?_
      refine zt_if (v248 = v252) 1249 705 (st' := []) rfl rfl rfl (fun b255 => ?_) (fun b255 => ?_)
      · have hf := zo_t hf b255
        exact zt_stop rfl rfl (by cases hf; exact ⟨rfl, rfl, rfl, rfl⟩)
      · have hf := zo_f hf b255
        refine zt_wg 1 (pc' := 706) (lv' := [some (.ref 37), some (.ref 64), some (.ref 216), some (.ref 243), some (.int i), none, none]) (st' := [.int (0 : Int32)]) (h' := h251) rfl ?_
        exact zt_stop rfl rfl (by cases hf; exact ⟨rfl, rfl, trivial⟩)
    have hf := zo_f hf b246
    by_cases b256 : (v4 &&& (31 : Int32)) = (17 : Int32)
    · have hf := zo_t hf b256
      refine zt_ts (t := 707) rfl rfl (by rw [b256]; rfl) ?_
      refine zt_wg 5 (pc' := 713) (lv' := [some (.ref 37), some (.ref 64), some (.ref 216), some (.ref 243), some (.int i), none, none]) (st' := [.int (i + (1 : Int32)), .ref 37, .ref 64]) (h' := h) rfl ?_
      obtain ⟨v257, e258, hf⟩ := zo_b_s hf
      refine zt_iald rfl rfl e258 ?_
      refine zt_wg 4 (pc' := 719) (lv' := [some (.ref 37), some (.ref 64), some (.ref 216), some (.ref 243), some (.int i), none, none]) (st' := [.int (i + (2 : Int32)), .ref 37, .int v257, .ref 64]) (h' := h) rfl ?_
      obtain ⟨v259, e260, hf⟩ := zo_b_s hf
      refine zt_iald rfl rfl e260 ?_
      obtain ⟨e264, v262, h261, e263, hf⟩ := zo_v_s hf
      refine zt_cv zq_m105 [.int v257, .int v259] [] rfl rfl rfl rfl rfl rfl (Nat.le_of_ble_eq_true rfl) (Nat.le_of_ble_eq_true rfl) e264 (zx_plan_ok sc d (by omega) e263) ?_
      refine zt_wg 0 (pc' := 723) (lv' := [some (.ref 37), some (.ref 64), some (.ref 216), some (.ref 243), some (.int i), none, none]) (st' := [.int v262]) (h' := h261) rfl ?_
      refine zt_wg 5 (pc' := 729) (lv' := [some (.ref 37), some (.ref 64), some (.ref 216), some (.ref 243), some (.int i), none, none]) (st' := [.int (i + (1 : Int32)), .ref 37, .ref 216, .int v262]) (h' := h261) rfl ?_
      obtain ⟨v265, e266, hf⟩ := zo_b_s hf
      refine zt_iald rfl rfl e266 ?_
      refine zt_wg 4 (pc' := 735) (lv' := [some (.ref 37), some (.ref 64), some (.ref 216), some (.ref 243), some (.int i), none, none]) (st' := [.int (i + (2 : Int32)), .ref 37, .int v265, .ref 216, .int v262]) (h' := h261) rfl ?_
      obtain ⟨v267, e268, hf⟩ := zo_b_s hf
      refine zt_iald rfl rfl e268 ?_
      obtain ⟨e272, v270, h269, e271, hf⟩ := zo_v_s hf
      refine zt_cv zq_m231 [.int v265, .int v267] [.int v262] rfl rfl rfl rfl rfl rfl (Nat.le_of_ble_eq_true rfl) (Nat.le_of_ble_eq_true rfl) e272 (zm_plan_ok sc d (by omega) e271) ?_
      refine zt_wg 0 (pc' := 739) (lv' := [some (.ref 37), some (.ref 64), some (.ref 216), some (.ref 243), some (.int i), none, none]) (st' := [.int v270, .int v262]) (h' := h269) rfl ?_
      refine zt_if (v262 = v270) 1249 742 (st' := []) rfl rfl rfl (fun b273 => ?_) (fun b273 => ?_)
      · have hf := zo_t hf b273
        exact zt_stop rfl rfl (by cases hf; exact ⟨rfl, rfl, rfl, rfl⟩)
      · have hf := zo_f hf b273
        refine zt_wg 1 (pc' := 743) (lv' := [some (.ref 37), some (.ref 64), some (.ref 216), some (.ref 243), some (.int i), none, none]) (st' := [.int (0 : Int32)]) (h' := h269) rfl ?_
        exact zt_stop rfl rfl (by cases hf; exact ⟨rfl, rfl, trivial⟩)
    have hf := zo_f hf b256
    by_cases b274 : (v4 &&& (31 : Int32)) = (18 : Int32)
    · have hf := zo_t hf b274
      refine zt_ts (t := 744) rfl rfl (by rw [b274]; rfl) ?_
      refine zt_wg 5 (pc' := 750) (lv' := [some (.ref 37), some (.ref 64), some (.ref 216), some (.ref 243), some (.int i), none, none]) (st' := [.int (i + (1 : Int32)), .ref 37, .ref 64]) (h' := h) rfl ?_
      obtain ⟨v275, e276, hf⟩ := zo_b_s hf
      refine zt_iald rfl rfl e276 ?_
      obtain ⟨e280, v278, h277, e279, hf⟩ := zo_v_s hf
      refine zt_cv zq_m111 [.int v275] [] rfl rfl rfl rfl rfl rfl (Nat.le_of_ble_eq_true rfl) (Nat.le_of_ble_eq_true rfl) e280 (zx_swaps_ok sc d (by omega) e279) ?_
      refine zt_wg 0 (pc' := 754) (lv' := [some (.ref 37), some (.ref 64), some (.ref 216), some (.ref 243), some (.int i), none, none]) (st' := [.int v278]) (h' := h277) rfl ?_
      refine zt_wg 5 (pc' := 760) (lv' := [some (.ref 37), some (.ref 64), some (.ref 216), some (.ref 243), some (.int i), none, none]) (st' := [.int (i + (1 : Int32)), .ref 37, .ref 216, .int v278]) (h' := h277) rfl ?_
      obtain ⟨v281, e282, hf⟩ := zo_b_s hf
      refine zt_iald rfl rfl e282 ?_
      obtain ⟨e286, v284, h283, e285, hf⟩ := zo_v_s hf
      refine zt_cv zq_m234 [.int v281] [.int v278] rfl rfl rfl rfl rfl rfl (Nat.le_of_ble_eq_true rfl) (Nat.le_of_ble_eq_true rfl) e286 (zm_swaps_ok sc d (by omega) e285) ?_
      refine zt_wg 0 (pc' := 764) (lv' := [some (.ref 37), some (.ref 64), some (.ref 216), some (.ref 243), some (.int i), none, none]) (st' := [.int v284, .int v278]) (h' := h283) rfl ?_
      refine zt_if (v278 = v284) 1249 767 (st' := []) rfl rfl rfl (fun b287 => ?_) (fun b287 => ?_)
      · have hf := zo_t hf b287
        exact zt_stop rfl rfl (by cases hf; exact ⟨rfl, rfl, rfl, rfl⟩)
      · have hf := zo_f hf b287
        refine zt_wg 1 (pc' := 768) (lv' := [some (.ref 37), some (.ref 64), some (.ref 216), some (.ref 243), some (.int i), none, none]) (st' := [.int (0 : Int32)]) (h' := h283) rfl ?_
        exact zt_stop rfl rfl (by cases hf; exact ⟨rfl, rfl, trivial⟩)
    have hf := zo_f hf b274
    by_cases b288 : (v4 &&& (31 : Int32)) = (19 : Int32)
    · have hf := zo_t hf b288
      refine zt_ts (t := 769) rfl rfl (by rw [b288]; rfl) ?_
      refine zt_wg 1 (pc' := 770) (lv' := [some (.ref 37), some (.ref 64), some (.ref 216), some (.ref 243), some (.int i), none, none]) (st' := [.ref 64]) (h' := h) rfl ?_
      obtain ⟨e292, v290, h289, e291, hf⟩ := zo_v_s hf
      refine zt_cv zq_m116 [] [] rfl rfl rfl rfl rfl rfl (Nat.le_of_ble_eq_true rfl) (Nat.le_of_ble_eq_true rfl) e292 (zx_leave_ok sc d (by omega) e291) ?_
      refine zt_wg 0 (pc' := 773) (lv' := [some (.ref 37), some (.ref 64), some (.ref 216), some (.ref 243), some (.int i), none, none]) (st' := [.int v290]) (h' := h289) rfl ?_
      refine zt_wg 1 (pc' := 774) (lv' := [some (.ref 37), some (.ref 64), some (.ref 216), some (.ref 243), some (.int i), none, none]) (st' := [.ref 216, .int v290]) (h' := h289) rfl ?_
      obtain ⟨e296, v294, h293, e295, hf⟩ := zo_v_s hf
      refine zt_cv zq_m239 [] [.int v290] rfl rfl rfl rfl rfl rfl (Nat.le_of_ble_eq_true rfl) (Nat.le_of_ble_eq_true rfl) e296 (zm_leave_ok sc d (by omega) e295) ?_
      refine zt_wg 0 (pc' := 777) (lv' := [some (.ref 37), some (.ref 64), some (.ref 216), some (.ref 243), some (.int i), none, none]) (st' := [.int v294, .int v290]) (h' := h293) rfl ?_
      refine zt_if (v290 = v294) 1249 780 (st' := []) rfl rfl rfl (fun b297 => ?_) (fun b297 => ?_)
      · have hf := zo_t hf b297
        exact zt_stop rfl rfl (by cases hf; exact ⟨rfl, rfl, rfl, rfl⟩)
      · have hf := zo_f hf b297
        refine zt_wg 1 (pc' := 781) (lv' := [some (.ref 37), some (.ref 64), some (.ref 216), some (.ref 243), some (.int i), none, none]) (st' := [.int (0 : Int32)]) (h' := h293) rfl ?_
        exact zt_stop rfl rfl (by cases hf; exact ⟨rfl, rfl, trivial⟩)
    have hf := zo_f hf b288
    by_cases b298 : (v4 &&& (31 : Int32)) = (20 : Int32)
    · have hf := zo_t hf b298
      refine zt_ts (t := 782) rfl rfl (by rw [b298]; rfl) ?_
      refine zt_wg 5 (pc' := 788) (lv' := [some (.ref 37), some (.ref 64), some (.ref 216), some (.ref 243), some (.int i), none, none]) (st' := [.int (i + (1 : Int32)), .ref 37, .ref 64]) (h' := h) rfl ?_
      obtain ⟨v299, e300, hf⟩ := zo_b_s hf
      refine zt_iald rfl rfl e300 ?_
      obtain ⟨e304, v302, h301, e303, hf⟩ := zo_v_s hf
      refine zt_cv zq_m117 [.int v299] [] rfl rfl rfl rfl rfl rfl (Nat.le_of_ble_eq_true rfl) (Nat.le_of_ble_eq_true rfl) e304 (zx_pool_ok sc d (by omega) e303) ?_
      refine zt_wg 0 (pc' := 792) (lv' := [some (.ref 37), some (.ref 64), some (.ref 216), some (.ref 243), some (.int i), none, none]) (st' := [.int v302]) (h' := h301) rfl ?_
      refine zt_wg 5 (pc' := 798) (lv' := [some (.ref 37), some (.ref 64), some (.ref 216), some (.ref 243), some (.int i), none, none]) (st' := [.int (i + (1 : Int32)), .ref 37, .ref 216, .int v302]) (h' := h301) rfl ?_
      obtain ⟨v305, e306, hf⟩ := zo_b_s hf
      refine zt_iald rfl rfl e306 ?_
      obtain ⟨e310, v308, h307, e309, hf⟩ := zo_v_s hf
      refine zt_cv zq_m240 [.int v305] [.int v302] rfl rfl rfl rfl rfl rfl (Nat.le_of_ble_eq_true rfl) (Nat.le_of_ble_eq_true rfl) e310 (zm_pool_ok sc d (by omega) e309) ?_
      refine zt_wg 0 (pc' := 802) (lv' := [some (.ref 37), some (.ref 64), some (.ref 216), some (.ref 243), some (.int i), none, none]) (st' := [.int v308, .int v302]) (h' := h307) rfl ?_
      refine zt_if (v302 = v308) 1249 805 (st' := []) rfl rfl rfl (fun b311 => ?_) (fun b311 => ?_)
      · have hf := zo_t hf b311
        exact zt_stop rfl rfl (by cases hf; exact ⟨rfl, rfl, rfl, rfl⟩)
      · have hf := zo_f hf b311
        refine zt_wg 1 (pc' := 806) (lv' := [some (.ref 37), some (.ref 64), some (.ref 216), some (.ref 243), some (.int i), none, none]) (st' := [.int (0 : Int32)]) (h' := h307) rfl ?_
        exact zt_stop rfl rfl (by cases hf; exact ⟨rfl, rfl, trivial⟩)
    have hf := zo_f hf b298
    by_cases b312 : (v4 &&& (31 : Int32)) = (21 : Int32)
    · have hf := zo_t hf b312
      refine zt_ts (t := 807) rfl rfl (by rw [b312]; rfl) ?_
      refine zt_wg 5 (pc' := 813) (lv' := [some (.ref 37), some (.ref 64), some (.ref 216), some (.ref 243), some (.int i), none, none]) (st' := [.int (i + (1 : Int32)), .ref 37, .ref 64]) (h' := h) rfl ?_
      obtain ⟨v313, e314, hf⟩ := zo_b_s hf
      refine zt_iald rfl rfl e314 ?_
      refine zt_wg 4 (pc' := 819) (lv' := [some (.ref 37), some (.ref 64), some (.ref 216), some (.ref 243), some (.int i), none, none]) (st' := [.int (i + (2 : Int32)), .ref 37, .int v313, .ref 64]) (h' := h) rfl ?_
      obtain ⟨v315, e316, hf⟩ := zo_b_s hf
      refine zt_iald rfl rfl e316 ?_
      obtain ⟨e320, v318, h317, e319, hf⟩ := zo_v_s hf
      refine zt_cv zq_m121 [.int v313, .int v315] [] rfl rfl rfl rfl rfl rfl (Nat.le_of_ble_eq_true rfl) (Nat.le_of_ble_eq_true rfl) e320 (zx_share_ok sc d (by omega) e319) ?_
      refine zt_wg 0 (pc' := 823) (lv' := [some (.ref 37), some (.ref 64), some (.ref 216), some (.ref 243), some (.int i), none, none]) (st' := [.int v318]) (h' := h317) rfl ?_
      refine zt_wg 5 (pc' := 829) (lv' := [some (.ref 37), some (.ref 64), some (.ref 216), some (.ref 243), some (.int i), none, none]) (st' := [.int (i + (1 : Int32)), .ref 37, .ref 216, .int v318]) (h' := h317) rfl ?_
      obtain ⟨v321, e322, hf⟩ := zo_b_s hf
      refine zt_iald rfl rfl e322 ?_
      refine zt_wg 4 (pc' := 835) (lv' := [some (.ref 37), some (.ref 64), some (.ref 216), some (.ref 243), some (.int i), none, none]) (st' := [.int (i + (2 : Int32)), .ref 37, .int v321, .ref 216, .int v318]) (h' := h317) rfl ?_
      obtain ⟨v323, e324, hf⟩ := zo_b_s hf
      refine zt_iald rfl rfl e324 ?_
      obtain ⟨e328, v326, h325, e327, hf⟩ := zo_v_s hf
      refine zt_cv zq_m244 [.int v321, .int v323] [.int v318] rfl rfl rfl rfl rfl rfl (Nat.le_of_ble_eq_true rfl) (Nat.le_of_ble_eq_true rfl) e328 (zm_share_ok sc d (by omega) e327) ?_
      refine zt_wg 0 (pc' := 839) (lv' := [some (.ref 37), some (.ref 64), some (.ref 216), some (.ref 243), some (.int i), none, none]) (st' := [.int v326, .int v318]) (h' := h325) rfl ?_
      refine zt_if (v318 = v326) 1249 842 (st' := []) rfl rfl rfl (fun b329 => ?_) (fun b329 => ?_)
      · have hf := zo_t hf b329
        exact zt_stop rfl rfl (by cases hf; exact ⟨rfl, rfl, rfl, rfl⟩)
      · have hf := zo_f hf b329
        refine zt_wg 1 (pc' := 843) (lv' := [some (.ref 37), some (.ref 64), some (.ref 216), some (.ref 243), some (.int i), none, none]) (st' := [.int (0 : Int32)]) (h' := h325) rfl ?_
        exact zt_stop rfl rfl (by cases hf; exact ⟨rfl, rfl, trivial⟩)
    have hf := zo_f hf b312
    by_cases b330 : (v4 &&& (31 : Int32)) = (22 : Int32)
    · have hf := zo_t hf b330
      refine zt_ts (t := 844) rfl rfl (by rw [b330]; rfl) ?_
      refine zt_wg 5 (pc' := 850) (lv' := [some (.ref 37), some (.ref 64), some (.ref 216), some (.ref 243), some (.int i), none, none]) (st' := [.int (i + (1 : Int32)), .ref 37, .ref 64]) (h' := h) rfl ?_
      obtain ⟨v331, e332, hf⟩ := zo_b_s hf
      refine zt_iald rfl rfl e332 ?_
      refine zt_wg 4 (pc' := 856) (lv' := [some (.ref 37), some (.ref 64), some (.ref 216), some (.ref 243), some (.int i), none, none]) (st' := [.int (i + (2 : Int32)), .ref 37, .int v331, .ref 64]) (h' := h) rfl ?_
      obtain ⟨v333, e334, hf⟩ := zo_b_s hf
      refine zt_iald rfl rfl e334 ?_
      obtain ⟨e338, v336, h335, e337, hf⟩ := zo_v_s hf
      refine zt_cv zq_m124 [.int v331, .int v333] [] rfl rfl rfl rfl rfl rfl (Nat.le_of_ble_eq_true rfl) (Nat.le_of_ble_eq_true rfl) e338 (zx_tell_ok sc d (by omega) e337) ?_
      refine zt_wg 0 (pc' := 860) (lv' := [some (.ref 37), some (.ref 64), some (.ref 216), some (.ref 243), some (.int i), none, none]) (st' := [.int v336]) (h' := h335) rfl ?_
      refine zt_wg 5 (pc' := 866) (lv' := [some (.ref 37), some (.ref 64), some (.ref 216), some (.ref 243), some (.int i), none, none]) (st' := [.int (i + (1 : Int32)), .ref 37, .ref 216, .int v336]) (h' := h335) rfl ?_
      obtain ⟨v339, e340, hf⟩ := zo_b_s hf
      refine zt_iald rfl rfl e340 ?_
      refine zt_wg 4 (pc' := 872) (lv' := [some (.ref 37), some (.ref 64), some (.ref 216), some (.ref 243), some (.int i), none, none]) (st' := [.int (i + (2 : Int32)), .ref 37, .int v339, .ref 216, .int v336]) (h' := h335) rfl ?_
      obtain ⟨v341, e342, hf⟩ := zo_b_s hf
      refine zt_iald rfl rfl e342 ?_
      obtain ⟨e346, v344, h343, e345, hf⟩ := zo_v_s hf
      refine zt_cv zq_m247 [.int v339, .int v341] [.int v336] rfl rfl rfl rfl rfl rfl (Nat.le_of_ble_eq_true rfl) (Nat.le_of_ble_eq_true rfl) e346 (zm_tell_ok sc d (by omega) e345) ?_
      refine zt_wg 0 (pc' := 876) (lv' := [some (.ref 37), some (.ref 64), some (.ref 216), some (.ref 243), some (.int i), none, none]) (st' := [.int v344, .int v336]) (h' := h343) rfl ?_
      refine zt_if (v336 = v344) 1249 879 (st' := []) rfl rfl rfl (fun b347 => ?_) (fun b347 => ?_)
      · have hf := zo_t hf b347
        exact zt_stop rfl rfl (by cases hf; exact ⟨rfl, rfl, rfl, rfl⟩)
      · have hf := zo_f hf b347
        refine zt_wg 1 (pc' := 880) (lv' := [some (.ref 37), some (.ref 64), some (.ref 216), some (.ref 243), some (.int i), none, none]) (st' := [.int (0 : Int32)]) (h' := h343) rfl ?_
        exact zt_stop rfl rfl (by cases hf; exact ⟨rfl, rfl, trivial⟩)
    have hf := zo_f hf b330
    by_cases b348 : (v4 &&& (31 : Int32)) = (23 : Int32)
    · have hf := zo_t hf b348
      refine zt_ts (t := 881) rfl rfl (by rw [b348]; rfl) ?_
      refine zt_wg 5 (pc' := 887) (lv' := [some (.ref 37), some (.ref 64), some (.ref 216), some (.ref 243), some (.int i), none, none]) (st' := [.int (i + (1 : Int32)), .ref 37, .ref 64]) (h' := h) rfl ?_
      obtain ⟨v349, e350, hf⟩ := zo_b_s hf
      refine zt_iald rfl rfl e350 ?_
      refine zt_wg 4 (pc' := 893) (lv' := [some (.ref 37), some (.ref 64), some (.ref 216), some (.ref 243), some (.int i), none, none]) (st' := [.int (i + (2 : Int32)), .ref 37, .int v349, .ref 64]) (h' := h) rfl ?_
      obtain ⟨v351, e352, hf⟩ := zo_b_s hf
      refine zt_iald rfl rfl e352 ?_
      obtain ⟨e356, v354, h353, e355, hf⟩ := zo_v_s hf
      refine zt_cv zq_m125 [.int v349, .int v351] [] rfl rfl rfl rfl rfl rfl (Nat.le_of_ble_eq_true rfl) (Nat.le_of_ble_eq_true rfl) e356 (zx_fair_ok sc d (by omega) e355) ?_
      refine zt_wg 0 (pc' := 897) (lv' := [some (.ref 37), some (.ref 64), some (.ref 216), some (.ref 243), some (.int i), none, none]) (st' := [.int v354]) (h' := h353) rfl ?_
      refine zt_wg 5 (pc' := 903) (lv' := [some (.ref 37), some (.ref 64), some (.ref 216), some (.ref 243), some (.int i), none, none]) (st' := [.int (i + (1 : Int32)), .ref 37, .ref 216, .int v354]) (h' := h353) rfl ?_
      obtain ⟨v357, e358, hf⟩ := zo_b_s hf
      refine zt_iald rfl rfl e358 ?_
      refine zt_wg 4 (pc' := 909) (lv' := [some (.ref 37), some (.ref 64), some (.ref 216), some (.ref 243), some (.int i), none, none]) (st' := [.int (i + (2 : Int32)), .ref 37, .int v357, .ref 216, .int v354]) (h' := h353) rfl ?_
      obtain ⟨v359, e360, hf⟩ := zo_b_s hf
      refine zt_iald rfl rfl e360 ?_
      obtain ⟨e364, v362, h361, e363, hf⟩ := zo_v_s hf
      refine zt_cv zq_m248 [.int v357, .int v359] [.int v354] rfl rfl rfl rfl rfl rfl (Nat.le_of_ble_eq_true rfl) (Nat.le_of_ble_eq_true rfl) e364 (zm_fair_ok sc d (by omega) e363) ?_
      refine zt_wg 0 (pc' := 913) (lv' := [some (.ref 37), some (.ref 64), some (.ref 216), some (.ref 243), some (.int i), none, none]) (st' := [.int v362, .int v354]) (h' := h361) rfl ?_
      refine zt_if (v354 = v362) 1249 916 (st' := []) rfl rfl rfl (fun b365 => ?_) (fun b365 => ?_)
      · have hf := zo_t hf b365
        exact zt_stop rfl rfl (by cases hf; exact ⟨rfl, rfl, rfl, rfl⟩)
      · have hf := zo_f hf b365
        refine zt_wg 1 (pc' := 917) (lv' := [some (.ref 37), some (.ref 64), some (.ref 216), some (.ref 243), some (.int i), none, none]) (st' := [.int (0 : Int32)]) (h' := h361) rfl ?_
        exact zt_stop rfl rfl (by cases hf; exact ⟨rfl, rfl, trivial⟩)
    have hf := zo_f hf b348
    by_cases b366 : (v4 &&& (31 : Int32)) = (24 : Int32)
    · have hf := zo_t hf b366
      refine zt_ts (t := 918) rfl rfl (by rw [b366]; rfl) ?_
      refine zt_wg 5 (pc' := 924) (lv' := [some (.ref 37), some (.ref 64), some (.ref 216), some (.ref 243), some (.int i), none, none]) (st' := [.int (i + (1 : Int32)), .ref 37, .ref 64]) (h' := h) rfl ?_
      obtain ⟨v367, e368, hf⟩ := zo_b_s hf
      refine zt_iald rfl rfl e368 ?_
      refine zt_wg 4 (pc' := 930) (lv' := [some (.ref 37), some (.ref 64), some (.ref 216), some (.ref 243), some (.int i), none, none]) (st' := [.int (i + (2 : Int32)), .ref 37, .int v367, .ref 64]) (h' := h) rfl ?_
      obtain ⟨v369, e370, hf⟩ := zo_b_s hf
      refine zt_iald rfl rfl e370 ?_
      refine zt_wg 4 (pc' := 936) (lv' := [some (.ref 37), some (.ref 64), some (.ref 216), some (.ref 243), some (.int i), none, none]) (st' := [.int (i + (3 : Int32)), .ref 37, .int v369, .int v367, .ref 64]) (h' := h) rfl ?_
      obtain ⟨v371, e372, hf⟩ := zo_b_s hf
      refine zt_iald rfl rfl e372 ?_
      obtain ⟨e376, v374, h373, e375, hf⟩ := zo_v_s hf
      refine zt_cv zq_m130 [.int v367, .int v369, .int v371] [] rfl rfl rfl rfl rfl rfl (Nat.le_of_ble_eq_true rfl) (Nat.le_of_ble_eq_true rfl) e376 (zx_more_ok sc d (by omega) e375) ?_
      refine zt_wg 0 (pc' := 940) (lv' := [some (.ref 37), some (.ref 64), some (.ref 216), some (.ref 243), some (.int i), none, none]) (st' := [.int v374]) (h' := h373) rfl ?_
      refine zt_wg 5 (pc' := 946) (lv' := [some (.ref 37), some (.ref 64), some (.ref 216), some (.ref 243), some (.int i), none, none]) (st' := [.int (i + (1 : Int32)), .ref 37, .ref 216, .int v374]) (h' := h373) rfl ?_
      obtain ⟨v377, e378, hf⟩ := zo_b_s hf
      refine zt_iald rfl rfl e378 ?_
      refine zt_wg 4 (pc' := 952) (lv' := [some (.ref 37), some (.ref 64), some (.ref 216), some (.ref 243), some (.int i), none, none]) (st' := [.int (i + (2 : Int32)), .ref 37, .int v377, .ref 216, .int v374]) (h' := h373) rfl ?_
      obtain ⟨v379, e380, hf⟩ := zo_b_s hf
      refine zt_iald rfl rfl e380 ?_
      refine zt_wg 4 (pc' := 958) (lv' := [some (.ref 37), some (.ref 64), some (.ref 216), some (.ref 243), some (.int i), none, none]) (st' := [.int (i + (3 : Int32)), .ref 37, .int v379, .int v377, .ref 216, .int v374]) (h' := h373) rfl ?_
      obtain ⟨v381, e382, hf⟩ := zo_b_s hf
      refine zt_iald rfl rfl e382 ?_
      obtain ⟨e386, v384, h383, e385, hf⟩ := zo_v_s hf
      refine zt_cv zq_m252 [.int v377, .int v379, .int v381] [.int v374] rfl rfl rfl rfl rfl rfl (Nat.le_of_ble_eq_true rfl) (Nat.le_of_ble_eq_true rfl) e386 (zm_more_ok sc d (by omega) e385) ?_
      refine zt_wg 0 (pc' := 962) (lv' := [some (.ref 37), some (.ref 64), some (.ref 216), some (.ref 243), some (.int i), none, none]) (st' := [.int v384, .int v374]) (h' := h383) rfl ?_
      refine zt_if (v374 = v384) 1249 965 (st' := []) rfl rfl rfl (fun b387 => ?_) (fun b387 => ?_)
      · have hf := zo_t hf b387
        exact zt_stop rfl rfl (by cases hf; exact ⟨rfl, rfl, rfl, rfl⟩)
      · have hf := zo_f hf b387
        refine zt_wg 1 (pc' := 966) (lv' := [some (.ref 37), some (.ref 64), some (.ref 216), some (.ref 243), some (.int i), none, none]) (st' := [.int (0 : Int32)]) (h' := h383) rfl ?_
        exact zt_stop rfl rfl (by cases hf; exact ⟨rfl, rfl, trivial⟩)
    have hf := zo_f hf b366
    by_cases b388 : (v4 &&& (31 : Int32)) = (25 : Int32)
    · have hf := zo_t hf b388
      refine zt_ts (t := 967) rfl rfl (by rw [b388]; rfl) ?_
      refine zt_wg 5 (pc' := 973) (lv' := [some (.ref 37), some (.ref 64), some (.ref 216), some (.ref 243), some (.int i), none, none]) (st' := [.int (i + (1 : Int32)), .ref 37, .ref 64]) (h' := h) rfl ?_
      obtain ⟨v389, e390, hf⟩ := zo_b_s hf
      refine zt_iald rfl rfl e390 ?_
      obtain ⟨e394, v392, h391, e393, hf⟩ := zo_v_s hf
      refine zt_cv zq_m131 [.int v389] [] rfl rfl rfl rfl rfl rfl (Nat.le_of_ble_eq_true rfl) (Nat.le_of_ble_eq_true rfl) e394 (zx_see_ok sc d (by omega) e393) ?_
      refine zt_wg 0 (pc' := 977) (lv' := [some (.ref 37), some (.ref 64), some (.ref 216), some (.ref 243), some (.int i), none, none]) (st' := [.int v392]) (h' := h391) rfl ?_
      refine zt_wg 5 (pc' := 983) (lv' := [some (.ref 37), some (.ref 64), some (.ref 216), some (.ref 243), some (.int i), none, none]) (st' := [.int (i + (1 : Int32)), .ref 37, .ref 216, .int v392]) (h' := h391) rfl ?_
      obtain ⟨v395, e396, hf⟩ := zo_b_s hf
      refine zt_iald rfl rfl e396 ?_
      obtain ⟨e400, v398, h397, e399, hf⟩ := zo_v_s hf
      refine zt_cv zq_m253 [.int v395] [.int v392] rfl rfl rfl rfl rfl rfl (Nat.le_of_ble_eq_true rfl) (Nat.le_of_ble_eq_true rfl) e400 (zm_see_ok sc d (by omega) e399) ?_
      refine zt_wg 0 (pc' := 987) (lv' := [some (.ref 37), some (.ref 64), some (.ref 216), some (.ref 243), some (.int i), none, none]) (st' := [.int v398, .int v392]) (h' := h397) rfl ?_
      refine zt_if (v392 = v398) 1249 990 (st' := []) rfl rfl rfl (fun b401 => ?_) (fun b401 => ?_)
      · have hf := zo_t hf b401
        exact zt_stop rfl rfl (by cases hf; exact ⟨rfl, rfl, rfl, rfl⟩)
      · have hf := zo_f hf b401
        refine zt_wg 1 (pc' := 991) (lv' := [some (.ref 37), some (.ref 64), some (.ref 216), some (.ref 243), some (.int i), none, none]) (st' := [.int (0 : Int32)]) (h' := h397) rfl ?_
        exact zt_stop rfl rfl (by cases hf; exact ⟨rfl, rfl, trivial⟩)
    have hf := zo_f hf b388
    by_cases b402 : (v4 &&& (31 : Int32)) = (26 : Int32)
    · have hf := zo_t hf b402
      refine zt_ts (t := 992) rfl rfl (by rw [b402]; rfl) ?_
      refine zt_wg 5 (pc' := 998) (lv' := [some (.ref 37), some (.ref 64), some (.ref 216), some (.ref 243), some (.int i), none, none]) (st' := [.int (i + (1 : Int32)), .ref 37, .ref 64]) (h' := h) rfl ?_
      obtain ⟨v403, e404, hf⟩ := zo_b_s hf
      refine zt_iald rfl rfl e404 ?_
      obtain ⟨e408, v406, h405, e407, hf⟩ := zo_v_s hf
      refine zt_cv zq_m132 [.int v403] [] rfl rfl rfl rfl rfl rfl (Nat.le_of_ble_eq_true rfl) (Nat.le_of_ble_eq_true rfl) e408 (zx_orders_ok sc d (by omega) e407) ?_
      refine zt_wg 0 (pc' := 1002) (lv' := [some (.ref 37), some (.ref 64), some (.ref 216), some (.ref 243), some (.int i), none, none]) (st' := [.int v406]) (h' := h405) rfl ?_
      refine zt_wg 5 (pc' := 1008) (lv' := [some (.ref 37), some (.ref 64), some (.ref 216), some (.ref 243), some (.int i), none, none]) (st' := [.int (i + (1 : Int32)), .ref 37, .ref 216, .int v406]) (h' := h405) rfl ?_
      obtain ⟨v409, e410, hf⟩ := zo_b_s hf
      refine zt_iald rfl rfl e410 ?_
      obtain ⟨e414, v412, h411, e413, hf⟩ := zo_v_s hf
      refine zt_cv zq_m254 [.int v409] [.int v406] rfl rfl rfl rfl rfl rfl (Nat.le_of_ble_eq_true rfl) (Nat.le_of_ble_eq_true rfl) e414 (zm_orders_ok sc d (by omega) e413) ?_
      refine zt_wg 0 (pc' := 1012) (lv' := [some (.ref 37), some (.ref 64), some (.ref 216), some (.ref 243), some (.int i), none, none]) (st' := [.int v412, .int v406]) (h' := h411) rfl ?_
      refine zt_if (v406 = v412) 1249 1015 (st' := []) rfl rfl rfl (fun b415 => ?_) (fun b415 => ?_)
      · have hf := zo_t hf b415
        exact zt_stop rfl rfl (by cases hf; exact ⟨rfl, rfl, rfl, rfl⟩)
      · have hf := zo_f hf b415
        refine zt_wg 1 (pc' := 1016) (lv' := [some (.ref 37), some (.ref 64), some (.ref 216), some (.ref 243), some (.int i), none, none]) (st' := [.int (0 : Int32)]) (h' := h411) rfl ?_
        exact zt_stop rfl rfl (by cases hf; exact ⟨rfl, rfl, trivial⟩)
    have hf := zo_f hf b402
    by_cases b416 : (v4 &&& (31 : Int32)) = (27 : Int32)
    · have hf := zo_t hf b416
      refine zt_ts (t := 1017) rfl rfl (by rw [b416]; rfl) ?_
      refine zt_wg 5 (pc' := 1023) (lv' := [some (.ref 37), some (.ref 64), some (.ref 216), some (.ref 243), some (.int i), none, none]) (st' := [.int (i + (1 : Int32)), .ref 37, .ref 64]) (h' := h) rfl ?_
      obtain ⟨v417, e418, hf⟩ := zo_b_s hf
      refine zt_iald rfl rfl e418 ?_
      obtain ⟨e422, v420, h419, e421, hf⟩ := zo_v_s hf
      refine zt_cv zq_m134 [.int v417] [] rfl rfl rfl rfl rfl rfl (Nat.le_of_ble_eq_true rfl) (Nat.le_of_ble_eq_true rfl) e422 (zx_putOff_ok sc d (by omega) e421) ?_
      refine zt_wg 0 (pc' := 1027) (lv' := [some (.ref 37), some (.ref 64), some (.ref 216), some (.ref 243), some (.int i), none, none]) (st' := [.int v420]) (h' := h419) rfl ?_
      refine zt_wg 5 (pc' := 1033) (lv' := [some (.ref 37), some (.ref 64), some (.ref 216), some (.ref 243), some (.int i), none, none]) (st' := [.int (i + (1 : Int32)), .ref 37, .ref 216, .int v420]) (h' := h419) rfl ?_
      obtain ⟨v423, e424, hf⟩ := zo_b_s hf
      refine zt_iald rfl rfl e424 ?_
      obtain ⟨e428, v426, h425, e427, hf⟩ := zo_v_s hf
      refine zt_cv zq_m257 [.int v423] [.int v420] rfl rfl rfl rfl rfl rfl (Nat.le_of_ble_eq_true rfl) (Nat.le_of_ble_eq_true rfl) e428 (zm_putOff_ok sc d (by omega) e427) ?_
      refine zt_wg 0 (pc' := 1037) (lv' := [some (.ref 37), some (.ref 64), some (.ref 216), some (.ref 243), some (.int i), none, none]) (st' := [.int v426, .int v420]) (h' := h425) rfl ?_
      refine zt_if (v420 = v426) 1249 1040 (st' := []) rfl rfl rfl (fun b429 => ?_) (fun b429 => ?_)
      · have hf := zo_t hf b429
        exact zt_stop rfl rfl (by cases hf; exact ⟨rfl, rfl, rfl, rfl⟩)
      · have hf := zo_f hf b429
        refine zt_wg 1 (pc' := 1041) (lv' := [some (.ref 37), some (.ref 64), some (.ref 216), some (.ref 243), some (.int i), none, none]) (st' := [.int (0 : Int32)]) (h' := h425) rfl ?_
        exact zt_stop rfl rfl (by cases hf; exact ⟨rfl, rfl, trivial⟩)
    have hf := zo_f hf b416
    by_cases b430 : (v4 &&& (31 : Int32)) = (28 : Int32)
    · have hf := zo_t hf b430
      refine zt_ts (t := 1042) rfl rfl (by rw [b430]; rfl) ?_
      refine zt_wg 5 (pc' := 1048) (lv' := [some (.ref 37), some (.ref 64), some (.ref 216), some (.ref 243), some (.int i), none, none]) (st' := [.int (i + (1 : Int32)), .ref 37, .ref 64]) (h' := h) rfl ?_
      obtain ⟨v431, e432, hf⟩ := zo_b_s hf
      refine zt_iald rfl rfl e432 ?_
      refine zt_wg 4 (pc' := 1054) (lv' := [some (.ref 37), some (.ref 64), some (.ref 216), some (.ref 243), some (.int i), none, none]) (st' := [.int (i + (2 : Int32)), .ref 37, .int v431, .ref 64]) (h' := h) rfl ?_
      obtain ⟨v433, e434, hf⟩ := zo_b_s hf
      refine zt_iald rfl rfl e434 ?_
      refine zt_wg 4 (pc' := 1060) (lv' := [some (.ref 37), some (.ref 64), some (.ref 216), some (.ref 243), some (.int i), none, none]) (st' := [.int (i + (3 : Int32)), .ref 37, .int v433, .int v431, .ref 64]) (h' := h) rfl ?_
      obtain ⟨v435, e436, hf⟩ := zo_b_s hf
      refine zt_iald rfl rfl e436 ?_
      refine zt_wg 1 (pc' := 1062) (lv' := [some (.ref 37), some (.ref 64), some (.ref 216), some (.ref 243), some (.int i), none, none]) (st' := [.ref 243, .int v435, .int v433, .int v431, .ref 64]) (h' := h) rfl ?_
      exact zt_stop rfl rfl (by cases hf; exact ⟨rfl, rfl, rfl, rfl⟩)
    have hf := zo_f hf b430
    by_cases b437 : (v4 &&& (31 : Int32)) = (29 : Int32)
    · have hf := zo_t hf b437
      refine zt_ts (t := 1122) rfl rfl (by rw [b437]; rfl) ?_
      refine zt_wg 5 (pc' := 1128) (lv' := [some (.ref 37), some (.ref 64), some (.ref 216), some (.ref 243), some (.int i), none, none]) (st' := [.int (i + (1 : Int32)), .ref 37, .ref 64]) (h' := h) rfl ?_
      obtain ⟨v438, e439, hf⟩ := zo_b_s hf
      refine zt_iald rfl rfl e439 ?_
      refine zt_wg 4 (pc' := 1134) (lv' := [some (.ref 37), some (.ref 64), some (.ref 216), some (.ref 243), some (.int i), none, none]) (st' := [.int (i + (2 : Int32)), .ref 37, .int v438, .ref 64]) (h' := h) rfl ?_
      obtain ⟨v440, e441, hf⟩ := zo_b_s hf
      refine zt_iald rfl rfl e441 ?_
      refine zt_wg 4 (pc' := 1140) (lv' := [some (.ref 37), some (.ref 64), some (.ref 216), some (.ref 243), some (.int i), none, none]) (st' := [.int (i + (3 : Int32)), .ref 37, .int v440, .int v438, .ref 64]) (h' := h) rfl ?_
      obtain ⟨v442, e443, hf⟩ := zo_b_s hf
      refine zt_iald rfl rfl e443 ?_
      obtain ⟨e447, v445, h444, e446, hf⟩ := zo_v_s hf
      refine zt_cv zq_m137 [.int v438, .int v440, .int v442] [] rfl rfl rfl rfl rfl rfl (Nat.le_of_ble_eq_true rfl) (Nat.le_of_ble_eq_true rfl) e447 (zx_years_ok sc d (by omega) e446) ?_
      refine zt_wg 0 (pc' := 1144) (lv' := [some (.ref 37), some (.ref 64), some (.ref 216), some (.ref 243), some (.int i), none, none]) (st' := [.int v445]) (h' := h444) rfl ?_
      refine zt_wg 5 (pc' := 1150) (lv' := [some (.ref 37), some (.ref 64), some (.ref 216), some (.ref 243), some (.int i), none, none]) (st' := [.int (i + (1 : Int32)), .ref 37, .ref 216, .int v445]) (h' := h444) rfl ?_
      obtain ⟨v448, e449, hf⟩ := zo_b_s hf
      refine zt_iald rfl rfl e449 ?_
      refine zt_wg 4 (pc' := 1156) (lv' := [some (.ref 37), some (.ref 64), some (.ref 216), some (.ref 243), some (.int i), none, none]) (st' := [.int (i + (2 : Int32)), .ref 37, .int v448, .ref 216, .int v445]) (h' := h444) rfl ?_
      obtain ⟨v450, e451, hf⟩ := zo_b_s hf
      refine zt_iald rfl rfl e451 ?_
      refine zt_wg 4 (pc' := 1162) (lv' := [some (.ref 37), some (.ref 64), some (.ref 216), some (.ref 243), some (.int i), none, none]) (st' := [.int (i + (3 : Int32)), .ref 37, .int v450, .int v448, .ref 216, .int v445]) (h' := h444) rfl ?_
      obtain ⟨v452, e453, hf⟩ := zo_b_s hf
      refine zt_iald rfl rfl e453 ?_
      obtain ⟨e457, v455, h454, e456, hf⟩ := zo_v_s hf
      refine zt_cv zq_m262 [.int v448, .int v450, .int v452] [.int v445] rfl rfl rfl rfl rfl rfl (Nat.le_of_ble_eq_true rfl) (Nat.le_of_ble_eq_true rfl) e457 (zm_years_ok sc d (by omega) e456) ?_
      refine zt_wg 0 (pc' := 1166) (lv' := [some (.ref 37), some (.ref 64), some (.ref 216), some (.ref 243), some (.int i), none, none]) (st' := [.int v455, .int v445]) (h' := h454) rfl ?_
      refine zt_if (v445 = v455) 1249 1169 (st' := []) rfl rfl rfl (fun b458 => ?_) (fun b458 => ?_)
      · have hf := zo_t hf b458
        exact zt_stop rfl rfl (by cases hf; exact ⟨rfl, rfl, rfl, rfl⟩)
      · have hf := zo_f hf b458
        refine zt_wg 1 (pc' := 1170) (lv' := [some (.ref 37), some (.ref 64), some (.ref 216), some (.ref 243), some (.int i), none, none]) (st' := [.int (0 : Int32)]) (h' := h454) rfl ?_
        exact zt_stop rfl rfl (by cases hf; exact ⟨rfl, rfl, trivial⟩)
    have hf := zo_f hf b437
    by_cases b459 : (v4 &&& (31 : Int32)) = (30 : Int32)
    · have hf := zo_t hf b459
      refine zt_ts (t := 1171) rfl rfl (by rw [b459]; rfl) ?_
      refine zt_wg 5 (pc' := 1177) (lv' := [some (.ref 37), some (.ref 64), some (.ref 216), some (.ref 243), some (.int i), none, none]) (st' := [.int (i + (1 : Int32)), .ref 37, .ref 64]) (h' := h) rfl ?_
      obtain ⟨v460, e461, hf⟩ := zo_b_s hf
      refine zt_iald rfl rfl e461 ?_
      refine zt_wg 4 (pc' := 1183) (lv' := [some (.ref 37), some (.ref 64), some (.ref 216), some (.ref 243), some (.int i), none, none]) (st' := [.int (i + (2 : Int32)), .ref 37, .int v460, .ref 64]) (h' := h) rfl ?_
      obtain ⟨v462, e463, hf⟩ := zo_b_s hf
      refine zt_iald rfl rfl e463 ?_
      obtain ⟨g1192_464, hg1192_464, hf⟩ := zo_lx hf
      have kg1192_464 : ∀ (x464 : Int32), g1192_464 x464 = some (ro_, ho_) → zq_wq sc zl_sp (d + 1) 265 1192 [some (.ref 37), some (.ref 64), some (.ref 216), some (.ref 243), some (.int i), none, none] [.int x464, .int v460, .ref 64] h (zl_ph i ro_ ho_) := by
        intro x464 hf
        rw [hg1192_464] at hf
        obtain ⟨e468, v466, h465, e467, hf⟩ := zo_v_s hf
        refine zt_cv zq_m138 [.int v460, .int x464] [] rfl rfl rfl rfl rfl rfl (Nat.le_of_ble_eq_true rfl) (Nat.le_of_ble_eq_true rfl) e468 (zx_mark_ok sc d (by omega) e467) ?_
        refine zt_wg 0 (pc' := 1195) (lv' := [some (.ref 37), some (.ref 64), some (.ref 216), some (.ref 243), some (.int i), none, none]) (st' := [.int v466]) (h' := h465) rfl ?_
        refine zt_wg 5 (pc' := 1201) (lv' := [some (.ref 37), some (.ref 64), some (.ref 216), some (.ref 243), some (.int i), none, none]) (st' := [.int (i + (1 : Int32)), .ref 37, .ref 216, .int v466]) (h' := h465) rfl ?_
        obtain ⟨v469, e470, hf⟩ := zo_b_s hf
        refine zt_iald rfl rfl e470 ?_
        refine zt_wg 4 (pc' := 1207) (lv' := [some (.ref 37), some (.ref 64), some (.ref 216), some (.ref 243), some (.int i), none, none]) (st' := [.int (i + (2 : Int32)), .ref 37, .int v469, .ref 216, .int v466]) (h' := h465) rfl ?_
        obtain ⟨v471, e472, hf⟩ := zo_b_s hf
        refine zt_iald rfl rfl e472 ?_
        obtain ⟨g1216_473, hg1216_473, hf⟩ := zo_lx hf
        have kg1216_473 : ∀ (x473 : Int32), g1216_473 x473 = some (ro_, ho_) → zq_wq sc zl_sp (d + 1) 265 1216 [some (.ref 37), some (.ref 64), some (.ref 216), some (.ref 243), some (.int i), none, none] [.int x473, .int v469, .ref 216, .int v466] h465 (zl_ph i ro_ ho_) := by
          intro x473 hf
          rw [hg1216_473] at hf
          obtain ⟨e477, v475, h474, e476, hf⟩ := zo_v_s hf
          refine zt_cv zq_m263 [.int v469, .int x473] [.int v466] rfl rfl rfl rfl rfl rfl (Nat.le_of_ble_eq_true rfl) (Nat.le_of_ble_eq_true rfl) e477 (zm_mark_ok sc d (by omega) e476) ?_
          refine zt_wg 0 (pc' := 1219) (lv' := [some (.ref 37), some (.ref 64), some (.ref 216), some (.ref 243), some (.int i), none, none]) (st' := [.int v475, .int v466]) (h' := h474) rfl ?_
          refine zt_if (v466 = v475) 1249 1222 (st' := []) rfl rfl rfl (fun b478 => ?_) (fun b478 => ?_)
          · have hf := zo_t hf b478
            exact zt_stop rfl rfl (by cases hf; exact ⟨rfl, rfl, rfl, rfl⟩)
          · have hf := zo_f hf b478
            refine zt_wg 1 (pc' := 1223) (lv' := [some (.ref 37), some (.ref 64), some (.ref 216), some (.ref 243), some (.int i), none, none]) (st' := [.int (0 : Int32)]) (h' := h474) rfl ?_
            exact zt_stop rfl rfl (by cases hf; exact ⟨rfl, rfl, trivial⟩)
        refine zt_if (v471 = 0) 1215 1211 (st' := [.int v469, .ref 216, .int v466]) rfl rfl rfl (fun b479 => ?_) (fun b479 => ?_)
        · have hf := zo_lt hf b479
          refine zt_wg 1 (pc' := 1216) (lv' := [some (.ref 37), some (.ref 64), some (.ref 216), some (.ref 243), some (.int i), none, none]) (st' := [.int (0 : Int32), .int v469, .ref 216, .int v466]) (h' := h465) rfl ?_
          exact kg1216_473 _ hf
        · have hf := zo_lf hf b479
          refine zt_wg 2 (pc' := 1216) (lv' := [some (.ref 37), some (.ref 64), some (.ref 216), some (.ref 243), some (.int i), none, none]) (st' := [.int (1 : Int32), .int v469, .ref 216, .int v466]) (h' := h465) rfl ?_
          exact kg1216_473 _ hf
      refine zt_if (v462 = 0) 1191 1187 (st' := [.int v460, .ref 64]) rfl rfl rfl (fun b480 => ?_) (fun b480 => ?_)
      · have hf := zo_lt hf b480
        refine zt_wg 1 (pc' := 1192) (lv' := [some (.ref 37), some (.ref 64), some (.ref 216), some (.ref 243), some (.int i), none, none]) (st' := [.int (0 : Int32), .int v460, .ref 64]) (h' := h) rfl ?_
        exact kg1192_464 _ hf
      · have hf := zo_lf hf b480
        refine zt_wg 2 (pc' := 1192) (lv' := [some (.ref 37), some (.ref 64), some (.ref 216), some (.ref 243), some (.int i), none, none]) (st' := [.int (1 : Int32), .int v460, .ref 64]) (h' := h) rfl ?_
        exact kg1192_464 _ hf
    have hf := zo_f hf b459
    by_cases b481 : (v4 &&& (31 : Int32)) = (31 : Int32)
    · have hf := zo_t hf b481
      refine zt_ts (t := 1224) rfl rfl (by rw [b481]; rfl) ?_
      refine zt_wg 5 (pc' := 1230) (lv' := [some (.ref 37), some (.ref 64), some (.ref 216), some (.ref 243), some (.int i), none, none]) (st' := [.int (i + (1 : Int32)), .ref 37, .ref 64]) (h' := h) rfl ?_
      obtain ⟨v482, e483, hf⟩ := zo_b_s hf
      refine zt_iald rfl rfl e483 ?_
      obtain ⟨e487, v485, h484, e486, hf⟩ := zo_v_s hf
      refine zt_cv zq_m140 [.int v482] [] rfl rfl rfl rfl rfl rfl (Nat.le_of_ble_eq_true rfl) (Nat.le_of_ble_eq_true rfl) e487 (zx_count_ok sc d (by omega) e486) ?_
      refine zt_wg 0 (pc' := 1234) (lv' := [some (.ref 37), some (.ref 64), some (.ref 216), some (.ref 243), some (.int i), none, none]) (st' := [.int v485]) (h' := h484) rfl ?_
      refine zt_wg 5 (pc' := 1240) (lv' := [some (.ref 37), some (.ref 64), some (.ref 216), some (.ref 243), some (.int i), none, none]) (st' := [.int (i + (1 : Int32)), .ref 37, .ref 216, .int v485]) (h' := h484) rfl ?_
      obtain ⟨v488, e489, hf⟩ := zo_b_s hf
      refine zt_iald rfl rfl e489 ?_
      obtain ⟨e493, v491, h490, e492, hf⟩ := zo_v_s hf
      refine zt_cv zq_m264 [.int v488] [.int v485] rfl rfl rfl rfl rfl rfl (Nat.le_of_ble_eq_true rfl) (Nat.le_of_ble_eq_true rfl) e493 (zm_count_ok sc d (by omega) e492) ?_
      refine zt_wg 0 (pc' := 1244) (lv' := [some (.ref 37), some (.ref 64), some (.ref 216), some (.ref 243), some (.int i), none, none]) (st' := [.int v491, .int v485]) (h' := h490) rfl ?_
      refine zt_if (v485 = v491) 1249 1247 (st' := []) rfl rfl rfl (fun b494 => ?_) (fun b494 => ?_)
      · have hf := zo_t hf b494
        exact zt_stop rfl rfl (by cases hf; exact ⟨rfl, rfl, rfl, rfl⟩)
      · have hf := zo_f hf b494
        refine zt_wg 1 (pc' := 1248) (lv' := [some (.ref 37), some (.ref 64), some (.ref 216), some (.ref 243), some (.int i), none, none]) (st' := [.int (0 : Int32)]) (h' := h490) rfl ?_
        exact zt_stop rfl rfl (by cases hf; exact ⟨rfl, rfl, trivial⟩)
    have hf := zo_f hf b481
    refine zt_ts (t := 1249) rfl rfl (by unfold zo_ts; rw [if_pos (by have eb6 := zo_ne b6 (z := 0) (by decide); have eb40 := zo_ne b40 (z := 1) (by decide); have eb50 := zo_ne b50 (z := 2) (by decide); have eb60 := zo_ne b60 (z := 3) (by decide); have eb78 := zo_ne b78 (z := 4) (by decide); have eb96 := zo_ne b96 (z := 5) (by decide); have eb114 := zo_ne b114 (z := 6) (by decide); have eb124 := zo_ne b124 (z := 7) (by decide); have eb138 := zo_ne b138 (z := 8) (by decide); have eb160 := zo_ne b160 (z := 9) (by decide); have eb174 := zo_ne b174 (z := 10) (by decide); have eb188 := zo_ne b188 (z := 11) (by decide); have eb198 := zo_ne b198 (z := 12) (by decide); have eb212 := zo_ne b212 (z := 13) (by decide); have eb222 := zo_ne b222 (z := 14) (by decide); have eb236 := zo_ne b236 (z := 15) (by decide); have eb246 := zo_ne b246 (z := 16) (by decide); have eb256 := zo_ne b256 (z := 17) (by decide); have eb274 := zo_ne b274 (z := 18) (by decide); have eb288 := zo_ne b288 (z := 19) (by decide); have eb298 := zo_ne b298 (z := 20) (by decide); have eb312 := zo_ne b312 (z := 21) (by decide); have eb330 := zo_ne b330 (z := 22) (by decide); have eb348 := zo_ne b348 (z := 23) (by decide); have eb366 := zo_ne b366 (z := 24) (by decide); have eb388 := zo_ne b388 (z := 25) (by decide); have eb402 := zo_ne b402 (z := 26) (by decide); have eb416 := zo_ne b416 (z := 27) (by decide); have eb430 := zo_ne b430 (z := 28) (by decide); have eb437 := zo_ne b437 (z := 29) (by decide); have eb459 := zo_ne b459 (z := 30) (by decide); have eb481 := zo_ne b481 (z := 31) (by decide); omega)]; rfl) ?_
    exact zt_stop rfl rfl (by cases hf; exact ⟨rfl, rfl, rfl, rfl⟩)
