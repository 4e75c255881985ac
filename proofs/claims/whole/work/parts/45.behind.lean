/-! the law behind its own rests; printed by wip/whole/gen43.py -/
section ZW
variable {sc : zX} {sp : Nat → Instr → Bool} {d k pc : Nat} {lv : List (Option Value)} {st : List Value} {h : zH} {o : zC → Prop}
theorem zt_lald {a : Nat} {i : Int32} {v : Int64} (hc : zq_code k pc = some (.laload, 1)) (hp0 : sp pc .laload = false) (hv : zq_rdL h a i = some v) (kk : zq_wq sc sp d k (pc + 1) lv (.long v :: st) h o) : zq_wq sc sp d k pc lv (.int i :: .ref a :: st) h o := zt_op (fun v => (pc + 1, lv, .long v :: st, h)) hc hp0 rfl hv kk
end ZW
def zl_ph2 (i : Int32) (ro : Nat) (ho : zH) (c : zC) : Prop := c.2.2.2 = ho ∧ (∃ u v, c.2.1 = [some (.ref 37), some (.ref 64), some (.ref 216), some (.ref 243), some (.int i), u, v]) ∧ (ro = 0 → c.1 = 1249 ∧ c.2.2.1 = [])
def zl_bod2 (sc : zX) (i k : Int32) (h : zH) : Option (Nat × zH) := zo_b (zq_rdI sc h 37 (i + (1 : Int32))) (fun v1 => zo_b (zq_rdI sc h 37 (i + (2 : Int32))) (fun v3 => zo_b (zq_rdI sc h 37 (i + (3 : Int32))) (fun v5 => zo_v h 216 10 (zm_rests sc 216 v1 v3 v5 h) (fun v8 h7 => zo_v h7 216 10 (zm_thrown sc 216 h7) (fun v12 h11 => if v12 = k then (if k = 0 then (zo_b (zq_rdL h11 243 (0 : Int32)) (fun v17 => if (lg_cmp v17 v8.toInt64) = 0 then (some (0, h11)) else (some (1, h11)))) else (some (0, h11))) else (some (1, h11)))))))
set_option maxHeartbeats 8000000 in
set_option maxRecDepth 8000 in
theorem zl_bod2_ok (sc : zX) (d : Nat) (hd : 4 ≤ d) {i k : Int32} {h : zH} {ro_ : Nat} {ho_ : zH} (hf : zl_bod2 sc i k h = some (ro_, ho_)) : zq_wq sc zl_sp (d + 1) 265 1065 (zl_lv i) [.int k] h (zl_ph2 i ro_ ho_) := by
  unfold zl_bod2 at hf
  show zq_wq sc zl_sp (d + 1) 265 1065 [some (.ref 37), some (.ref 64), some (.ref 216), some (.ref 243), some (.int i), none, none] [.int k] h (zl_ph2 i ro_ ho_)
  refine zt_wg 6 (pc' := 1073) (lv' := [some (.ref 37), some (.ref 64), some (.ref 216), some (.ref 243), some (.int i), some (.int k), none]) (st' := [.int (i + (1 : Int32)), .ref 37, .ref 216]) (h' := h) rfl ?_
  obtain ⟨v1, e2, hf⟩ := zo_b_s hf
  refine zt_iald rfl rfl e2 ?_
  refine zt_wg 4 (pc' := 1079) (lv' := [some (.ref 37), some (.ref 64), some (.ref 216), some (.ref 243), some (.int i), some (.int k), none]) (st' := [.int (i + (2 : Int32)), .ref 37, .int v1, .ref 216]) (h' := h) rfl ?_
  obtain ⟨v3, e4, hf⟩ := zo_b_s hf
  refine zt_iald rfl rfl e4 ?_
  refine zt_wg 4 (pc' := 1085) (lv' := [some (.ref 37), some (.ref 64), some (.ref 216), some (.ref 243), some (.int i), some (.int k), none]) (st' := [.int (i + (3 : Int32)), .ref 37, .int v3, .int v1, .ref 216]) (h' := h) rfl ?_
  obtain ⟨v5, e6, hf⟩ := zo_b_s hf
  refine zt_iald rfl rfl e6 ?_
  obtain ⟨e10, v8, h7, e9, hf⟩ := zo_v_s hf
  refine zt_cv zq_m260 [.int v1, .int v3, .int v5] [] rfl rfl rfl rfl rfl rfl (Nat.le_of_ble_eq_true rfl) (Nat.le_of_ble_eq_true rfl) e10 (zm_rests_ok sc d (by omega) e9) ?_
  refine zt_wg 0 (pc' := 1089) (lv' := [some (.ref 37), some (.ref 64), some (.ref 216), some (.ref 243), some (.int i), some (.int k), none]) (st' := [.int v8]) (h' := h7) rfl ?_
  refine zt_wg 2 (pc' := 1092) (lv' := [some (.ref 37), some (.ref 64), some (.ref 216), some (.ref 243), some (.int i), some (.int k), some (.int v8)]) (st' := [.ref 216]) (h' := h7) rfl ?_
  obtain ⟨e14, v12, h11, e13, hf⟩ := zo_v_s hf
  refine zt_cv zq_m144 [] [] rfl rfl rfl rfl rfl rfl (Nat.le_of_ble_eq_true rfl) (Nat.le_of_ble_eq_true rfl) e14 (zm_thrown_ok sc d (by omega) e13) ?_
  refine zt_wg 0 (pc' := 1095) (lv' := [some (.ref 37), some (.ref 64), some (.ref 216), some (.ref 243), some (.int i), some (.int k), some (.int v8)]) (st' := [.int v12]) (h' := h11) rfl ?_
  refine zt_wg 1 (pc' := 1097) (lv' := [some (.ref 37), some (.ref 64), some (.ref 216), some (.ref 243), some (.int i), some (.int k), some (.int v8)]) (st' := [.int k, .int v12]) (h' := h11) rfl ?_
  refine zt_if (v12 = k) 1102 1100 (st' := []) rfl rfl rfl (fun b15 => ?_) (fun b15 => ?_)
  · have hf := zo_t hf b15
    refine zt_wg 1 (pc' := 1104) (lv' := [some (.ref 37), some (.ref 64), some (.ref 216), some (.ref 243), some (.int i), some (.int k), some (.int v8)]) (st' := [.int k]) (h' := h11) rfl ?_
    refine zt_if (k = 0) 1107 1119 (st' := []) rfl rfl rfl (fun b16 => ?_) (fun b16 => ?_)
    · have hf := zo_t hf b16
      refine zt_wg 2 (pc' := 1109) (lv' := [some (.ref 37), some (.ref 64), some (.ref 216), some (.ref 243), some (.int i), some (.int k), some (.int v8)]) (st' := [.int (0 : Int32), .ref 243]) (h' := h11) rfl ?_
      obtain ⟨v17, e18, hf⟩ := zo_b_s hf
      refine zt_lald rfl rfl e18 ?_
      refine zt_wg 3 (pc' := 1114) (lv' := [some (.ref 37), some (.ref 64), some (.ref 216), some (.ref 243), some (.int i), some (.int k), some (.int v8)]) (st' := [.int (lg_cmp v17 v8.toInt64)]) (h' := h11) rfl ?_
      refine zt_if ((lg_cmp v17 v8.toInt64) = 0) 1119 1117 (st' := []) rfl rfl rfl (fun b19 => ?_) (fun b19 => ?_)
      · have hf := zo_t hf b19
        refine zt_wg 1 (pc' := 1249) (lv' := [some (.ref 37), some (.ref 64), some (.ref 216), some (.ref 243), some (.int i), some (.int k), some (.int v8)]) (st' := []) (h' := h11) rfl ?_
        exact zt_stop rfl rfl (by cases hf; exact ⟨rfl, ⟨_, _, rfl⟩, fun _ => ⟨rfl, rfl⟩⟩)
      · have hf := zo_f hf b19
        refine zt_wg 1 (pc' := 1118) (lv' := [some (.ref 37), some (.ref 64), some (.ref 216), some (.ref 243), some (.int i), some (.int k), some (.int v8)]) (st' := [.int (0 : Int32)]) (h' := h11) rfl ?_
        exact zt_stop rfl rfl (by cases hf; exact ⟨rfl, ⟨_, _, rfl⟩, by intro h; cases h⟩)
    · have hf := zo_f hf b16
      refine zt_wg 1 (pc' := 1249) (lv' := [some (.ref 37), some (.ref 64), some (.ref 216), some (.ref 243), some (.int i), some (.int k), some (.int v8)]) (st' := []) (h' := h11) rfl ?_
      exact zt_stop rfl rfl (by cases hf; exact ⟨rfl, ⟨_, _, rfl⟩, fun _ => ⟨rfl, rfl⟩⟩)
  · have hf := zo_f hf b15
    refine zt_wg 1 (pc' := 1101) (lv' := [some (.ref 37), some (.ref 64), some (.ref 216), some (.ref 243), some (.int i), some (.int k), some (.int v8)]) (st' := [.int (0 : Int32)]) (h' := h11) rfl ?_
    exact zt_stop rfl rfl (by cases hf; exact ⟨rfl, ⟨_, _, rfl⟩, by intro h; cases h⟩)
