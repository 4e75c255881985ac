/-! methods as functions, and their walks; printed by wip/whole/decomp.py -/
set_option maxRecDepth 4000 in
def zm_readOnce (sc : zX) (a0 : Nat) (h : zH) : Option (Unit × zH) := zo_v h a0 10 (zm_isWord sc a0 (7 : Int32) h) (fun v2 h1 => zo_l (fun (x5 : Nat) (x6 : Int32) (h7 : zH) => zo_l (fun (x8 : Nat) (x9 : Int32) (h10 : zH) => zo_b (zo_gI h10 10 x8 8) (fun v11 => if v11 ≤ 0 then (zo_b (zo_gI h10 10 x8 20) (fun v14 => zo_b (zo_pI h10 10 x8 20 (v14 ||| ((1 : Int32) <<< (x9 &&& 31)))) (fun h16 => zo_b (zo_gI h16 10 x8 7) (fun v18 => zo_b (zo_pI h16 10 x8 7 (v18 + (1 : Int32))) (fun h20 => if x9 = 0 then (zo_b (zo_gR h20 10 x8 10) (fun v23 => zo_v h20 x8 10 (zm_takeNumber sc x8 (4 : Int32) (40 : Int32) h20) (fun v26 h25 => zo_b (zq_wrX 1 h25 v23 (52 : Int32) v26) (fun h29 => zo_b (zo_gR h29 10 x8 10) (fun v31 => zo_b (zo_gR h29 10 x8 10) (fun v33 => zo_b (zq_rdI sc h29 v33 (52 : Int32)) (fun v35 => zo_v h29 x8 10 (zm_takeAfter sc x8 (8 : Int32) (1 : Int32) (v35 - (1 : Int32)) h29) (fun v38 h37 => zo_b (zq_wrX 1 h37 v31 (53 : Int32) v38) (fun h41 => some ((), h41)))))))))) else (if (4 : Int32) ≤ x9 then (zo_b (zo_gR h20 10 x8 10) (fun v44 => zo_b (zo_gI h20 10 x8 13) (fun v46 => zo_b (zq_wrX 1 h20 v44 (((57 : Int32) + x9) - (4 : Int32)) v46) (fun h48 => zo_l (if (6 : Int32) ≤ x9 then (112 : Int32) else (15 : Int32)) (fun (x50 : Int32) => zo_b (zo_pI h48 10 x8 21 x50) (fun h51 => zo_v h51 x8 10 (zm_all sc 64 x8 (0 : Int32) h51) (fun w54 h53 => zo_v h53 x8 10 (zm_emit sc x8 (0 : Int32) (0 : Int32) h53) (fun w58 h57 => some ((), h57))))))))) else (zo_b (zo_gR h20 10 x8 10) (fun v62 => zo_l (fun (x64 : Nat) (x65 : Int32) (x66 : Int32) (h67 : zH) => zo_b (zq_wrX 1 h67 x64 x65 x66) (fun h68 => some ((), h68))) (fun j189_67 => if x9 = (1 : Int32) then (zo_v h20 x8 10 (zm_takeNumber sc x8 (0 : Int32) (999 : Int32) h20) (fun v72 h71 => j189_67 v62 (((54 : Int32) + x9) - (1 : Int32)) v72 h71)) else (if x9 = (2 : Int32) then (zo_v h20 x8 10 (zm_takeNumber sc x8 (1 : Int32) (13 : Int32) h20) (fun v77 h76 => j189_67 v62 (((54 : Int32) + x9) - (1 : Int32)) v77 h76)) else (zo_v h20 x8 10 (zm_takeNumber sc x8 (0 : Int32) (99 : Int32) h20) (fun v81 h80 => j189_67 v62 (((54 : Int32) + x9) - (1 : Int32)) v81 h80)))))))))))) else (some ((), h10)))) (fun j62_10 => zo_l (fun (x84 : Nat) (x85 : Int32) (h86 : zH) => zo_b (zo_gI h86 10 x84 20) (fun v87 => if ((v87 >>> (x85 &&& 31)) &&& (1 : Int32)) = (1 : Int32) then (zo_v h86 x84 10 (zm_wrong sc x84 (3 : Int32) h86) (fun w91 h90 => j62_10 x84 x85 h90)) else (j62_10 x84 x85 h86))) (fun j45_86 => if x6 = 0 then (zo_v h7 x5 10 (zm_isWord sc x5 (7 : Int32) h7) (fun v96 h95 => if v96 = 0 then (zo_v h95 x5 10 (zm_wrong sc x5 (1 : Int32) h95) (fun w101 h100 => j62_10 x5 x6 h100)) else (j45_86 x5 x6 h95))) else (j45_86 x5 x6 h7)))) (fun j23_7 => if v2 = 0 then (zo_v h1 a0 10 (zm_wordHere sc a0 (9 : Int32) (6 : Int32) h1) (fun v106 h105 => j23_7 a0 (v106 + (1 : Int32)) h105)) else (j23_7 a0 (0 : Int32) h1)))
set_option maxRecDepth 4000 in
theorem zm_readOnce_ok (sc : zX) (d : Nat) (hd : 67 ≤ d) {a0 : Nat} {h : zH} {ro_ : Unit} {ho_ : zH} (hf : zm_readOnce sc a0 h = some (ro_, ho_)) : zq_wm sc d 175 [.ref a0] h (none, ho_) := by
  unfold zm_readOnce at hf
  obtain ⟨d, rfl⟩ : ∃ d', d = d' + 1 := ⟨d - 1, by omega⟩
  have hd : 66 ≤ d := by omega
  show zq_wp sc (d + 1) 175 0 [some (.ref a0), none] [] h _
  refine zq_wg 2 (pc' := 3) (lv' := [some (.ref a0), none]) (st' := [.int (7 : Int32), .ref a0]) (h' := h) rfl ?_
  obtain ⟨e4, v2, h1, e3, hf⟩ := zo_v_s hf
  refine zr_cv zq_m160 [.int (7 : Int32)] [] rfl rfl rfl rfl rfl (Nat.le_of_ble_eq_true rfl) (Nat.le_of_ble_eq_true rfl) e4 (zm_isWord_ok sc d (by omega) e3) ?_
  refine zq_wg 0 (pc' := 6) (lv' := [some (.ref a0), none]) (st' := [.int v2]) (h' := h1) rfl ?_
  obtain ⟨j23_7, hjj23_7, hf⟩ := zo_lj hf
  have kj23_7 : ∀ (x5 : Nat) (x6 : Int32) (h7 : zH), j23_7 x5 x6 h7 = some (ro_, ho_) → zq_wp sc (d + 1) 175 23 [some (.ref x5), none] [.int x6] h7 (none, ho_) := by
    intro x5 x6 h7 hf
    rw [hjj23_7] at hf
    refine zq_wg 2 (pc' := 25) (lv' := [some (.ref x5), some (.int x6)]) (st' := [.int x6]) (h' := h7) rfl ?_
    obtain ⟨j62_10, hjj62_10, hf⟩ := zo_lj hf
    have kj62_10 : ∀ (x8 : Nat) (x9 : Int32) (h10 : zH), j62_10 x8 x9 h10 = some (ro_, ho_) → zq_wp sc (d + 1) 175 62 [some (.ref x8), some (.int x9)] [] h10 (none, ho_) := by
      intro x8 x9 h10 hf
      rw [hjj62_10] at hf
      refine zq_wg 1 (pc' := 63) (lv' := [some (.ref x8), some (.int x9)]) (st' := [.ref x8]) (h' := h10) rfl ?_
      obtain ⟨v11, e12, hf⟩ := zo_b_s hf
      refine zr_gI rfl rfl (by decide) rfl e12 ?_
      refine zr_if (v11 ≤ 0) 70 69 (st' := []) rfl rfl (fun b13 => ?_) (fun b13 => ?_)
      · have hf := zo_t hf b13
        refine zq_wg 2 (pc' := 72) (lv' := [some (.ref x8), some (.int x9)]) (st' := [.ref x8, .ref x8]) (h' := h10) rfl ?_
        obtain ⟨v14, e15, hf⟩ := zo_b_s hf
        refine zr_gI rfl rfl (by decide) rfl e15 ?_
        refine zq_wg 4 (pc' := 79) (lv' := [some (.ref x8), some (.int x9)]) (st' := [.int (v14 ||| ((1 : Int32) <<< (x9 &&& 31))), .ref x8]) (h' := h10) rfl ?_
        obtain ⟨h16, e17, hf⟩ := zo_b_s hf
        refine zr_pI rfl rfl (by decide) rfl rfl e17 ?_
        refine zq_wg 2 (pc' := 84) (lv' := [some (.ref x8), some (.int x9)]) (st' := [.ref x8, .ref x8]) (h' := h16) rfl ?_
        obtain ⟨v18, e19, hf⟩ := zo_b_s hf
        refine zr_gI rfl rfl (by decide) rfl e19 ?_
        refine zq_wg 2 (pc' := 89) (lv' := [some (.ref x8), some (.int x9)]) (st' := [.int (v18 + (1 : Int32)), .ref x8]) (h' := h16) rfl ?_
        obtain ⟨h20, e21, hf⟩ := zo_b_s hf
        refine zr_pI rfl rfl (by decide) rfl rfl e21 ?_
        refine zq_wg 1 (pc' := 93) (lv' := [some (.ref x8), some (.int x9)]) (st' := [.int x9]) (h' := h20) rfl ?_
        refine zr_if (x9 = 0) 96 136 (st' := []) rfl rfl (fun b22 => ?_) (fun b22 => ?_)
        · have hf := zo_t hf b22
          refine zq_wg 1 (pc' := 97) (lv' := [some (.ref x8), some (.int x9)]) (st' := [.ref x8]) (h' := h20) rfl ?_
          obtain ⟨v23, e24, hf⟩ := zo_b_s hf
          refine zr_gR rfl rfl (by decide) rfl e24 ?_
          refine zq_wg 4 (pc' := 106) (lv' := [some (.ref x8), some (.int x9)]) (st' := [.int (40 : Int32), .int (4 : Int32), .ref x8, .int (52 : Int32), .ref v23]) (h' := h20) rfl ?_
          obtain ⟨e28, v26, h25, e27, hf⟩ := zo_v_s hf
          refine zr_cv zq_m171 [.int (4 : Int32), .int (40 : Int32)] [.int (52 : Int32), .ref v23] rfl rfl rfl rfl rfl (Nat.le_of_ble_eq_true rfl) (Nat.le_of_ble_eq_true rfl) e28 (zm_takeNumber_ok sc d (by omega) e27) ?_
          refine zq_wg 0 (pc' := 109) (lv' := [some (.ref x8), some (.int x9)]) (st' := [.int v26, .int (52 : Int32), .ref v23]) (h' := h25) rfl ?_
          obtain ⟨h29, e30, hf⟩ := zo_b_s hf
          refine zr_iast rfl e30 ?_
          refine zq_wg 1 (pc' := 111) (lv' := [some (.ref x8), some (.int x9)]) (st' := [.ref x8]) (h' := h29) rfl ?_
          obtain ⟨v31, e32, hf⟩ := zo_b_s hf
          refine zr_gR rfl rfl (by decide) rfl e32 ?_
          refine zq_wg 5 (pc' := 121) (lv' := [some (.ref x8), some (.int x9)]) (st' := [.ref x8, .int (1 : Int32), .int (8 : Int32), .ref x8, .int (53 : Int32), .ref v31]) (h' := h29) rfl ?_
          obtain ⟨v33, e34, hf⟩ := zo_b_s hf
          refine zr_gR rfl rfl (by decide) rfl e34 ?_
          refine zq_wg 1 (pc' := 126) (lv' := [some (.ref x8), some (.int x9)]) (st' := [.int (52 : Int32), .ref v33, .int (1 : Int32), .int (8 : Int32), .ref x8, .int (53 : Int32), .ref v31]) (h' := h29) rfl ?_
          obtain ⟨v35, e36, hf⟩ := zo_b_s hf
          refine zr_iald rfl e36 ?_
          refine zq_wg 2 (pc' := 129) (lv' := [some (.ref x8), some (.int x9)]) (st' := [.int (v35 - (1 : Int32)), .int (1 : Int32), .int (8 : Int32), .ref x8, .int (53 : Int32), .ref v31]) (h' := h29) rfl ?_
          obtain ⟨e40, v38, h37, e39, hf⟩ := zo_v_s hf
          refine zr_cv zq_m168 [.int (8 : Int32), .int (1 : Int32), .int (v35 - (1 : Int32))] [.int (53 : Int32), .ref v31] rfl rfl rfl rfl rfl (Nat.le_of_ble_eq_true rfl) (Nat.le_of_ble_eq_true rfl) e40 (zm_takeAfter_ok sc d (by omega) e39) ?_
          refine zq_wg 0 (pc' := 132) (lv' := [some (.ref x8), some (.int x9)]) (st' := [.int v38, .int (53 : Int32), .ref v31]) (h' := h37) rfl ?_
          obtain ⟨h41, e42, hf⟩ := zo_b_s hf
          refine zr_iast rfl e42 ?_
          refine zq_wg 1 (pc' := 236) (lv' := [some (.ref x8), some (.int x9)]) (st' := []) (h' := h41) rfl ?_
          exact zr_rv rfl rfl hf
        · have hf := zo_f hf b22
          refine zq_wg 2 (pc' := 138) (lv' := [some (.ref x8), some (.int x9)]) (st' := [.int (4 : Int32), .int x9]) (h' := h20) rfl ?_
          refine zr_if ((4 : Int32) ≤ x9) 193 141 (st' := []) rfl rfl (fun b43 => ?_) (fun b43 => ?_)
          · have hf := zo_t hf b43
            refine zq_wg 1 (pc' := 194) (lv' := [some (.ref x8), some (.int x9)]) (st' := [.ref x8]) (h' := h20) rfl ?_
            obtain ⟨v44, e45, hf⟩ := zo_b_s hf
            refine zr_gR rfl rfl (by decide) rfl e45 ?_
            refine zq_wg 6 (pc' := 204) (lv' := [some (.ref x8), some (.int x9)]) (st' := [.ref x8, .int (((57 : Int32) + x9) - (4 : Int32)), .ref v44]) (h' := h20) rfl ?_
            obtain ⟨v46, e47, hf⟩ := zo_b_s hf
            refine zr_gI rfl rfl (by decide) rfl e47 ?_
            obtain ⟨h48, e49, hf⟩ := zo_b_s hf
            refine zr_iast rfl e49 ?_
            refine zq_wg 3 (pc' := 212) (lv' := [some (.ref x8), some (.int x9)]) (st' := [.int (6 : Int32), .int x9, .ref x8]) (h' := h48) rfl ?_
            obtain ⟨g222_50, hg222_50, hf⟩ := zo_lx hf
            have kg222_50 : ∀ (x50 : Int32), g222_50 x50 = some (ro_, ho_) → zq_wp sc (d + 1) 175 222 [some (.ref x8), some (.int x9)] [.int x50, .ref x8] h48 (none, ho_) := by
              intro x50 hf
              rw [hg222_50] at hf
              obtain ⟨h51, e52, hf⟩ := zo_b_s hf
              refine zr_pI rfl rfl (by decide) rfl rfl e52 ?_
              refine zq_wg 2 (pc' := 227) (lv' := [some (.ref x8), some (.int x9)]) (st' := [.int (0 : Int32), .ref x8]) (h' := h51) rfl ?_
              obtain ⟨e56, w54, h53, e55, hf⟩ := zo_v_s hf
              refine zr_cv zq_m176 [.int (0 : Int32)] [] rfl rfl rfl rfl rfl (Nat.le_of_ble_eq_true rfl) (Nat.le_of_ble_eq_true rfl) e56 (zm_all_ok sc 64 d (by omega) e55) ?_
              refine zq_wg 0 (pc' := 230) (lv' := [some (.ref x8), some (.int x9)]) (st' := []) (h' := h53) rfl ?_
              refine zq_wg 3 (pc' := 233) (lv' := [some (.ref x8), some (.int x9)]) (st' := [.int (0 : Int32), .int (0 : Int32), .ref x8]) (h' := h53) rfl ?_
              obtain ⟨e60, w58, h57, e59, hf⟩ := zo_v_s hf
              refine zr_cv zq_m182 [.int (0 : Int32), .int (0 : Int32)] [] rfl rfl rfl rfl rfl (Nat.le_of_ble_eq_true rfl) (Nat.le_of_ble_eq_true rfl) e60 (zm_emit_ok sc d (by omega) e59) ?_
              refine zq_wg 0 (pc' := 236) (lv' := [some (.ref x8), some (.int x9)]) (st' := []) (h' := h57) rfl ?_
              exact zr_rv rfl rfl hf
            refine zr_if ((6 : Int32) ≤ x9) 220 215 (st' := [.ref x8]) rfl rfl (fun b61 => ?_) (fun b61 => ?_)
            · have hf := zo_lt hf b61
              refine zq_wg 1 (pc' := 222) (lv' := [some (.ref x8), some (.int x9)]) (st' := [.int (112 : Int32), .ref x8]) (h' := h48) rfl ?_
              exact kg222_50 _ hf
            · have hf := zo_lf hf b61
              refine zq_wg 2 (pc' := 222) (lv' := [some (.ref x8), some (.int x9)]) (st' := [.int (15 : Int32), .ref x8]) (h' := h48) rfl ?_
              exact kg222_50 _ hf
          · have hf := zo_f hf b43
            refine zq_wg 1 (pc' := 142) (lv' := [some (.ref x8), some (.int x9)]) (st' := [.ref x8]) (h' := h20) rfl ?_
            obtain ⟨v62, e63, hf⟩ := zo_b_s hf
            refine zr_gR rfl rfl (by decide) rfl e63 ?_
            refine zq_wg 7 (pc' := 153) (lv' := [some (.ref x8), some (.int x9)]) (st' := [.int (1 : Int32), .int x9, .int (((54 : Int32) + x9) - (1 : Int32)), .ref v62]) (h' := h20) rfl ?_
            obtain ⟨j189_67, hjj189_67, hf⟩ := zo_lj hf
            have kj189_67 : ∀ (x64 : Nat) (x65 : Int32) (x66 : Int32) (h67 : zH), j189_67 x64 x65 x66 h67 = some (ro_, ho_) → zq_wp sc (d + 1) 175 189 [none, none] [.int x66, .int x65, .ref x64] h67 (none, ho_) := by
              intro x64 x65 x66 h67 hf
              rw [hjj189_67] at hf
              obtain ⟨h68, e69, hf⟩ := zo_b_s hf
              refine zr_iast rfl e69 ?_
              refine zq_wg 1 (pc' := 236) (lv' := [none, none]) (st' := []) (h' := h68) rfl ?_
              exact zr_rv rfl rfl hf
            refine zr_if (x9 = (1 : Int32)) 156 167 (st' := [.int (((54 : Int32) + x9) - (1 : Int32)), .ref v62]) rfl rfl (fun b70 => ?_) (fun b70 => ?_)
            · have hf := zo_t hf b70
              refine zq_wg 3 (pc' := 161) (lv' := [some (.ref x8), some (.int x9)]) (st' := [.int (999 : Int32), .int (0 : Int32), .ref x8, .int (((54 : Int32) + x9) - (1 : Int32)), .ref v62]) (h' := h20) rfl ?_
              obtain ⟨e74, v72, h71, e73, hf⟩ := zo_v_s hf
              refine zr_cv zq_m171 [.int (0 : Int32), .int (999 : Int32)] [.int (((54 : Int32) + x9) - (1 : Int32)), .ref v62] rfl rfl rfl rfl rfl (Nat.le_of_ble_eq_true rfl) (Nat.le_of_ble_eq_true rfl) e74 (zm_takeNumber_ok sc d (by omega) e73) ?_
              refine zq_wg 0 (pc' := 164) (lv' := [some (.ref x8), some (.int x9)]) (st' := [.int v72, .int (((54 : Int32) + x9) - (1 : Int32)), .ref v62]) (h' := h71) rfl ?_
              refine zq_wg 1 (pc' := 189) (lv' := [some (.ref x8), some (.int x9)]) (st' := [.int v72, .int (((54 : Int32) + x9) - (1 : Int32)), .ref v62]) (h' := h71) rfl ?_
              refine zq_fg [none, none] (zq_lvle_n (zq_lvle_n zq_lvle_nil)) ?_
              exact kj189_67 v62 (((54 : Int32) + x9) - (1 : Int32)) v72 h71 hf
            · have hf := zo_f hf b70
              refine zq_wg 2 (pc' := 169) (lv' := [some (.ref x8), some (.int x9)]) (st' := [.int (2 : Int32), .int x9, .int (((54 : Int32) + x9) - (1 : Int32)), .ref v62]) (h' := h20) rfl ?_
              refine zr_if (x9 = (2 : Int32)) 172 182 (st' := [.int (((54 : Int32) + x9) - (1 : Int32)), .ref v62]) rfl rfl (fun b75 => ?_) (fun b75 => ?_)
              · have hf := zo_t hf b75
                refine zq_wg 3 (pc' := 176) (lv' := [some (.ref x8), some (.int x9)]) (st' := [.int (13 : Int32), .int (1 : Int32), .ref x8, .int (((54 : Int32) + x9) - (1 : Int32)), .ref v62]) (h' := h20) rfl ?_
                obtain ⟨e79, v77, h76, e78, hf⟩ := zo_v_s hf
                refine zr_cv zq_m171 [.int (1 : Int32), .int (13 : Int32)] [.int (((54 : Int32) + x9) - (1 : Int32)), .ref v62] rfl rfl rfl rfl rfl (Nat.le_of_ble_eq_true rfl) (Nat.le_of_ble_eq_true rfl) e79 (zm_takeNumber_ok sc d (by omega) e78) ?_
                refine zq_wg 0 (pc' := 179) (lv' := [some (.ref x8), some (.int x9)]) (st' := [.int v77, .int (((54 : Int32) + x9) - (1 : Int32)), .ref v62]) (h' := h76) rfl ?_
                refine zq_wg 1 (pc' := 189) (lv' := [some (.ref x8), some (.int x9)]) (st' := [.int v77, .int (((54 : Int32) + x9) - (1 : Int32)), .ref v62]) (h' := h76) rfl ?_
                refine zq_fg [none, none] (zq_lvle_n (zq_lvle_n zq_lvle_nil)) ?_
                exact kj189_67 v62 (((54 : Int32) + x9) - (1 : Int32)) v77 h76 hf
              · have hf := zo_f hf b75
                refine zq_wg 3 (pc' := 186) (lv' := [some (.ref x8), some (.int x9)]) (st' := [.int (99 : Int32), .int (0 : Int32), .ref x8, .int (((54 : Int32) + x9) - (1 : Int32)), .ref v62]) (h' := h20) rfl ?_
                obtain ⟨e83, v81, h80, e82, hf⟩ := zo_v_s hf
                refine zr_cv zq_m171 [.int (0 : Int32), .int (99 : Int32)] [.int (((54 : Int32) + x9) - (1 : Int32)), .ref v62] rfl rfl rfl rfl rfl (Nat.le_of_ble_eq_true rfl) (Nat.le_of_ble_eq_true rfl) e83 (zm_takeNumber_ok sc d (by omega) e82) ?_
                refine zq_wg 0 (pc' := 189) (lv' := [some (.ref x8), some (.int x9)]) (st' := [.int v81, .int (((54 : Int32) + x9) - (1 : Int32)), .ref v62]) (h' := h80) rfl ?_
                refine zq_fg [none, none] (zq_lvle_n (zq_lvle_n zq_lvle_nil)) ?_
                exact kj189_67 v62 (((54 : Int32) + x9) - (1 : Int32)) v81 h80 hf
      · have hf := zo_f hf b13
        exact zr_rv rfl rfl hf
    obtain ⟨j45_86, hjj45_86, hf⟩ := zo_lj hf
    have kj45_86 : ∀ (x84 : Nat) (x85 : Int32) (h86 : zH), j45_86 x84 x85 h86 = some (ro_, ho_) → zq_wp sc (d + 1) 175 45 [some (.ref x84), some (.int x85)] [] h86 (none, ho_) := by
      intro x84 x85 h86 hf
      rw [hjj45_86] at hf
      refine zq_wg 1 (pc' := 46) (lv' := [some (.ref x84), some (.int x85)]) (st' := [.ref x84]) (h' := h86) rfl ?_
      obtain ⟨v87, e88, hf⟩ := zo_b_s hf
      refine zr_gI rfl rfl (by decide) rfl e88 ?_
      refine zq_wg 5 (pc' := 54) (lv' := [some (.ref x84), some (.int x85)]) (st' := [.int (1 : Int32), .int ((v87 >>> (x85 &&& 31)) &&& (1 : Int32))]) (h' := h86) rfl ?_
      refine zr_if (((v87 >>> (x85 &&& 31)) &&& (1 : Int32)) = (1 : Int32)) 57 62 (st' := []) rfl rfl (fun b89 => ?_) (fun b89 => ?_)
      · have hf := zo_t hf b89
        refine zq_wg 2 (pc' := 59) (lv' := [some (.ref x84), some (.int x85)]) (st' := [.int (3 : Int32), .ref x84]) (h' := h86) rfl ?_
        obtain ⟨e93, w91, h90, e92, hf⟩ := zo_v_s hf
        refine zr_cv zq_m162 [.int (3 : Int32)] [] rfl rfl rfl rfl rfl (Nat.le_of_ble_eq_true rfl) (Nat.le_of_ble_eq_true rfl) e93 (zm_wrong_ok sc d (by omega) e92) ?_
        refine zq_wg 0 (pc' := 62) (lv' := [some (.ref x84), some (.int x85)]) (st' := []) (h' := h90) rfl ?_
        exact kj62_10 x84 x85 h90 hf
      · have hf := zo_f hf b89
        exact kj62_10 x84 x85 h86 hf
    refine zr_if (x6 = 0) 28 45 (st' := []) rfl rfl (fun b94 => ?_) (fun b94 => ?_)
    · have hf := zo_t hf b94
      refine zq_wg 2 (pc' := 31) (lv' := [some (.ref x5), some (.int x6)]) (st' := [.int (7 : Int32), .ref x5]) (h' := h7) rfl ?_
      obtain ⟨e98, v96, h95, e97, hf⟩ := zo_v_s hf
      refine zr_cv zq_m160 [.int (7 : Int32)] [] rfl rfl rfl rfl rfl (Nat.le_of_ble_eq_true rfl) (Nat.le_of_ble_eq_true rfl) e98 (zm_isWord_ok sc d (by omega) e97) ?_
      refine zq_wg 0 (pc' := 34) (lv' := [some (.ref x5), some (.int x6)]) (st' := [.int v96]) (h' := h95) rfl ?_
      refine zr_if (v96 = 0) 37 45 (st' := []) rfl rfl (fun b99 => ?_) (fun b99 => ?_)
      · have hf := zo_t hf b99
        refine zq_wg 2 (pc' := 39) (lv' := [some (.ref x5), some (.int x6)]) (st' := [.int (1 : Int32), .ref x5]) (h' := h95) rfl ?_
        obtain ⟨e103, w101, h100, e102, hf⟩ := zo_v_s hf
        refine zr_cv zq_m162 [.int (1 : Int32)] [] rfl rfl rfl rfl rfl (Nat.le_of_ble_eq_true rfl) (Nat.le_of_ble_eq_true rfl) e103 (zm_wrong_ok sc d (by omega) e102) ?_
        refine zq_wg 0 (pc' := 42) (lv' := [some (.ref x5), some (.int x6)]) (st' := []) (h' := h100) rfl ?_
        refine zq_wg 1 (pc' := 62) (lv' := [some (.ref x5), some (.int x6)]) (st' := []) (h' := h100) rfl ?_
        exact kj62_10 x5 x6 h100 hf
      · have hf := zo_f hf b99
        exact kj45_86 x5 x6 h95 hf
    · have hf := zo_f hf b94
      exact kj45_86 x5 x6 h7 hf
  refine zr_if (v2 = 0) 13 9 (st' := []) rfl rfl (fun b104 => ?_) (fun b104 => ?_)
  · have hf := zo_t hf b104
    refine zq_wg 3 (pc' := 18) (lv' := [some (.ref a0), none]) (st' := [.int (6 : Int32), .int (9 : Int32), .ref a0]) (h' := h1) rfl ?_
    obtain ⟨e108, v106, h105, e107, hf⟩ := zo_v_s hf
    refine zr_cv zq_m165 [.int (9 : Int32), .int (6 : Int32)] [] rfl rfl rfl rfl rfl (Nat.le_of_ble_eq_true rfl) (Nat.le_of_ble_eq_true rfl) e108 (zm_wordHere_ok sc d (by omega) e107) ?_
    refine zq_wg 0 (pc' := 21) (lv' := [some (.ref a0), none]) (st' := [.int v106]) (h' := h105) rfl ?_
    refine zq_wg 2 (pc' := 23) (lv' := [some (.ref a0), none]) (st' := [.int (v106 + (1 : Int32))]) (h' := h105) rfl ?_
    exact kj23_7 a0 (v106 + (1 : Int32)) h105 hf
  · have hf := zo_f hf b104
    refine zq_wg 2 (pc' := 23) (lv' := [some (.ref a0), none]) (st' := [.int (0 : Int32)]) (h' := h1) rfl ?_
    exact kj23_7 a0 (0 : Int32) h1 hf
set_option maxRecDepth 4000 in
def zm_army_l30 (sc : zX) : Nat → Nat → zH → (Nat → zH → Option (Int32 × zH)) → Option (Int32 × zH)
  | 0, _, _, _ => none
  | n + 1, y17, h18, k92 => zo_b (zo_gI h18 10 y17 8) (fun v19 => if v19 = 0 then (zo_b (zo_gR h18 10 y17 4) (fun v22 => zo_b (zo_gI h18 10 y17 7) (fun v24 => zo_b (zq_rdI sc h18 v22 v24) (fun v26 => if v26 = 0 then (k92 y17 h18) else (zo_v h18 y17 10 (zm_isWord sc y17 (0 : Int32) h18) (fun v30 h29 => zo_l (fun (x33 : Nat) (h34 : zH) => zo_v h34 x33 10 (zm_takeSign sc x33 (59 : Int32) h34) (fun w36 h35 => zm_army_l30 sc n x33 h35 k92)) (fun j83_34 => if v30 = 0 then (zo_v h29 y17 10 (zm_isWord sc y17 (3 : Int32) h29) (fun v41 h40 => if v41 = 0 then (zo_v h40 y17 10 (zm_readOnce sc y17 h40) (fun w46 h45 => j83_34 y17 h45)) else (zo_v h40 y17 10 (zm_readMan sc y17 h40) (fun w50 h49 => j83_34 y17 h49)))) else (zo_v h29 y17 10 (zm_readPost sc y17 h29) (fun w54 h53 => j83_34 y17 h53))))))))) else (k92 y17 h18))
set_option maxRecDepth 4000 in
def zm_army_l106 (sc : zX) : Nat → Nat → Int32 → zH → (Nat → zH → Option (Int32 × zH)) → Option (Int32 × zH)
  | 0, _, _, _, _ => none
  | n + 1, y62, y63, h64, k133 => if (50 : Int32) ≤ y63 then (k133 y62 h64) else (zo_b (zo_gR h64 10 y62 10) (fun v66 => zo_b (zo_gR h64 10 y62 10) (fun v68 => zo_b (zq_rdI sc h64 v68 ((50 : Int32) + y63)) (fun v70 => zo_b (zq_wrX 1 h64 v66 y63 v70) (fun h72 => zm_army_l106 sc n y62 (y63 + (1 : Int32)) h72 k133)))))
set_option maxRecDepth 4000 in
def zm_army_l135 (sc : zX) : Nat → Nat → Int32 → zH → (Nat → zH → Option (Int32 × zH)) → Option (Int32 × zH)
  | 0, _, _, _, _ => none
  | n + 1, y76, y77, h78, k181 => zo_b (zo_gI h78 10 y76 13) (fun v79 => if v79 ≤ y77 then (k181 y76 h78) else (zo_b (zo_gR h78 10 y76 11) (fun v82 => zo_b (zo_gR h78 10 y76 11) (fun v84 => zo_b (zq_rdI sc h78 v84 ((1100 : Int32) + y77)) (fun v86 => zo_b (zq_wrX 1 h78 v82 y77 v86) (fun h88 => zo_b (zo_gR h88 10 y76 12) (fun v90 => zo_b (zo_gR h88 10 y76 12) (fun v92 => zo_b (zq_rdI sc h88 v92 ((1100 : Int32) + y77)) (fun v94 => zo_b (zq_wrX 1 h88 v90 y77 v94) (fun h96 => zm_army_l135 sc n y76 (y77 + (1 : Int32)) h96 k181))))))))))
set_option maxRecDepth 4000 in
def zm_army_l183 (sc : zX) : Nat → Nat → Int32 → zH → (Nat → zH → Option (Int32 × zH)) → Option (Int32 × zH)
  | 0, _, _, _, _ => none
  | n + 1, y100, y101, h102, k221 => zo_b (zo_gI h102 10 y100 19) (fun v103 => if v103 ≤ y101 then (k221 y100 h102) else (zo_b (zo_gR h102 10 y100 14) (fun v106 => zo_b (zo_gR h102 10 y100 15) (fun v108 => zo_b (zq_rdL h102 v108 y101) (fun v110 => zo_b (zq_wrL h102 v106 y101 v110) (fun h112 => zo_b (zo_gR h112 10 y100 16) (fun v114 => zo_b (zo_gR h112 10 y100 17) (fun v116 => zo_b (zq_rdI sc h112 v116 y101) (fun v118 => zo_b (zq_wrX 1 h112 v114 y101 v118) (fun h120 => zm_army_l183 sc n y100 (y101 + (1 : Int32)) h120 k221))))))))))
set_option maxRecDepth 4000 in
def zm_army (sc : zX) (a0 : Nat) (h : zH) : Option (Int32 × zH) := zo_b (zo_pI h 10 a0 0 (0 : Int32)) (fun h1 => zo_v h1 a0 10 (zm_cutAll sc a0 h1) (fun w4 h3 => zo_b (zo_pI h3 10 a0 13 (0 : Int32)) (fun h7 => zo_b (zo_pI h7 10 a0 19 (0 : Int32)) (fun h9 => zo_b (zo_pI h9 10 a0 20 (0 : Int32)) (fun h11 => zo_v h11 a0 10 (zm_standsAsAlways sc a0 (50 : Int32) h11) (fun w14 h13 => zm_army_l30 sc zo_F a0 h13 (fun (x57 : Nat) (h58 : zH) => zo_b (zo_gI h58 10 x57 8) (fun v59 => if v59 ≤ 0 then (zm_army_l106 sc zo_F x57 (0 : Int32) h58 (fun (x74 : Nat) (h75 : zH) => zm_army_l135 sc zo_F x74 (0 : Int32) h75 (fun (x98 : Nat) (h99 : zH) => zm_army_l183 sc zo_F x98 (0 : Int32) h99 (fun (x122 : Nat) (h123 : zH) => zo_b (zo_gI h123 10 x122 19) (fun v124 => zo_b (zo_pI h123 10 x122 18 v124) (fun h126 => zo_v h126 x122 10 (zm_begins sc x122 h126) (fun w129 h128 => some ((0 : Int32), h128)))))))) else (zo_b (zo_gI h58 10 x57 8) (fun v132 => some (v132, h58)))))))))))
set_option maxRecDepth 4000 in
theorem zm_army_l30_ok (sc : zX) (d : Nat) (hd : 67 ≤ d) : ∀ (n : Nat) (y17 : Nat) (h18 : zH) (k92 : Nat → zH → Option (Int32 × zH)) (ro_ : Int32) (ho_ : zH), (∀ (z0 : Nat) (hz : zH), k92 z0 hz = some (ro_, ho_) → zq_wp sc (d + 1) 154 92 [some (.ref z0), none] [] hz (some (.int ro_), ho_)) → zm_army_l30 sc n y17 h18 k92 = some (ro_, ho_) → zq_wp sc (d + 1) 154 30 [some (.ref y17), none] [] h18 (some (.int ro_), ho_) := by
  intro n
  induction n with
  | zero => intro y17 h18 k92 ro_ ho_ hk92 hf; cases hf
  | succ n ih =>
    intro y17 h18 k92 ro_ ho_ hk92 hf
    refine zq_wg 1 (pc' := 31) (lv' := [some (.ref y17), none]) (st' := [.ref y17]) (h' := h18) rfl ?_
    obtain ⟨v19, e20, hf⟩ := zo_b_s hf
    refine zr_gI rfl rfl (by decide) rfl e20 ?_
    refine zr_if (v19 = 0) 37 92 (st' := []) rfl rfl (fun b21 => ?_) (fun b21 => ?_)
    · have hf := zo_t hf b21
      refine zq_wg 1 (pc' := 38) (lv' := [some (.ref y17), none]) (st' := [.ref y17]) (h' := h18) rfl ?_
      obtain ⟨v22, e23, hf⟩ := zo_b_s hf
      refine zr_gR rfl rfl (by decide) rfl e23 ?_
      refine zq_wg 1 (pc' := 42) (lv' := [some (.ref y17), none]) (st' := [.ref y17, .ref v22]) (h' := h18) rfl ?_
      obtain ⟨v24, e25, hf⟩ := zo_b_s hf
      refine zr_gI rfl rfl (by decide) rfl e25 ?_
      obtain ⟨v26, e27, hf⟩ := zo_b_s hf
      refine zr_iald rfl e27 ?_
      refine zr_if (v26 = 0) 92 49 (st' := []) rfl rfl (fun b28 => ?_) (fun b28 => ?_)
      · have hf := zo_t hf b28
        exact hk92 y17 h18 hf
      · have hf := zo_f hf b28
        refine zq_wg 2 (pc' := 51) (lv' := [some (.ref y17), none]) (st' := [.int (0 : Int32), .ref y17]) (h' := h18) rfl ?_
        obtain ⟨e32, v30, h29, e31, hf⟩ := zo_v_s hf
        refine zr_cv zq_m160 [.int (0 : Int32)] [] rfl rfl rfl rfl rfl (Nat.le_of_ble_eq_true rfl) (Nat.le_of_ble_eq_true rfl) e32 (zm_isWord_ok sc d (by omega) e31) ?_
        refine zq_wg 0 (pc' := 54) (lv' := [some (.ref y17), none]) (st' := [.int v30]) (h' := h29) rfl ?_
        obtain ⟨j83_34, hjj83_34, hf⟩ := zo_lj hf
        have kj83_34 : ∀ (x33 : Nat) (h34 : zH), j83_34 x33 h34 = some (ro_, ho_) → zq_wp sc (d + 1) 154 83 [some (.ref x33), none] [] h34 (some (.int ro_), ho_) := by
          intro x33 h34 hf
          rw [hjj83_34] at hf
          refine zq_wg 2 (pc' := 86) (lv' := [some (.ref x33), none]) (st' := [.int (59 : Int32), .ref x33]) (h' := h34) rfl ?_
          obtain ⟨e38, w36, h35, e37, hf⟩ := zo_v_s hf
          refine zr_cv zq_m184 [.int (59 : Int32)] [] rfl rfl rfl rfl rfl (Nat.le_of_ble_eq_true rfl) (Nat.le_of_ble_eq_true rfl) e38 (zm_takeSign_ok sc d (by omega) e37) ?_
          refine zq_wg 0 (pc' := 89) (lv' := [some (.ref x33), none]) (st' := []) (h' := h35) rfl ?_
          refine zq_wg 1 (pc' := 30) (lv' := [some (.ref x33), none]) (st' := []) (h' := h35) rfl ?_
          exact ih x33 h35 _ _ _ hk92 hf
        refine zr_if (v30 = 0) 64 57 (st' := []) rfl rfl (fun b39 => ?_) (fun b39 => ?_)
        · have hf := zo_t hf b39
          refine zq_wg 2 (pc' := 66) (lv' := [some (.ref y17), none]) (st' := [.int (3 : Int32), .ref y17]) (h' := h29) rfl ?_
          obtain ⟨e43, v41, h40, e42, hf⟩ := zo_v_s hf
          refine zr_cv zq_m160 [.int (3 : Int32)] [] rfl rfl rfl rfl rfl (Nat.le_of_ble_eq_true rfl) (Nat.le_of_ble_eq_true rfl) e43 (zm_isWord_ok sc d (by omega) e42) ?_
          refine zq_wg 0 (pc' := 69) (lv' := [some (.ref y17), none]) (st' := [.int v41]) (h' := h40) rfl ?_
          refine zr_if (v41 = 0) 79 72 (st' := []) rfl rfl (fun b44 => ?_) (fun b44 => ?_)
          · have hf := zo_t hf b44
            refine zq_wg 1 (pc' := 80) (lv' := [some (.ref y17), none]) (st' := [.ref y17]) (h' := h40) rfl ?_
            obtain ⟨e48, w46, h45, e47, hf⟩ := zo_v_s hf
            refine zr_cv zq_m175 [] [] rfl rfl rfl rfl rfl (Nat.le_of_ble_eq_true rfl) (Nat.le_of_ble_eq_true rfl) e48 (zm_readOnce_ok sc d (by omega) e47) ?_
            refine zq_wg 0 (pc' := 83) (lv' := [some (.ref y17), none]) (st' := []) (h' := h45) rfl ?_
            exact kj83_34 y17 h45 hf
          · have hf := zo_f hf b44
            refine zq_wg 1 (pc' := 73) (lv' := [some (.ref y17), none]) (st' := [.ref y17]) (h' := h40) rfl ?_
            obtain ⟨e52, w50, h49, e51, hf⟩ := zo_v_s hf
            refine zr_cv zq_m174 [] [] rfl rfl rfl rfl rfl (Nat.le_of_ble_eq_true rfl) (Nat.le_of_ble_eq_true rfl) e52 (zm_readMan_ok sc d (by omega) e51) ?_
            refine zq_wg 0 (pc' := 76) (lv' := [some (.ref y17), none]) (st' := []) (h' := h49) rfl ?_
            refine zq_wg 1 (pc' := 83) (lv' := [some (.ref y17), none]) (st' := []) (h' := h49) rfl ?_
            exact kj83_34 y17 h49 hf
        · have hf := zo_f hf b39
          refine zq_wg 1 (pc' := 58) (lv' := [some (.ref y17), none]) (st' := [.ref y17]) (h' := h29) rfl ?_
          obtain ⟨e56, w54, h53, e55, hf⟩ := zo_v_s hf
          refine zr_cv zq_m161 [] [] rfl rfl rfl rfl rfl (Nat.le_of_ble_eq_true rfl) (Nat.le_of_ble_eq_true rfl) e56 (zm_readPost_ok sc d (by omega) e55) ?_
          refine zq_wg 0 (pc' := 61) (lv' := [some (.ref y17), none]) (st' := []) (h' := h53) rfl ?_
          refine zq_wg 1 (pc' := 83) (lv' := [some (.ref y17), none]) (st' := []) (h' := h53) rfl ?_
          exact kj83_34 y17 h53 hf
    · have hf := zo_f hf b21
      exact hk92 y17 h18 hf
set_option maxRecDepth 4000 in
theorem zm_army_l106_ok (sc : zX) (d : Nat) (hd : 67 ≤ d) : ∀ (n : Nat) (y62 : Nat) (y63 : Int32) (h64 : zH) (k133 : Nat → zH → Option (Int32 × zH)) (ro_ : Int32) (ho_ : zH), (∀ (z0 : Nat) (hz : zH), k133 z0 hz = some (ro_, ho_) → zq_wp sc (d + 1) 154 133 [some (.ref z0), none] [] hz (some (.int ro_), ho_)) → zm_army_l106 sc n y62 y63 h64 k133 = some (ro_, ho_) → zq_wp sc (d + 1) 154 106 [some (.ref y62), some (.int y63)] [] h64 (some (.int ro_), ho_) := by
  intro n
  induction n with
  | zero => intro y62 y63 h64 k133 ro_ ho_ hk133 hf; cases hf
  | succ n ih =>
    intro y62 y63 h64 k133 ro_ ho_ hk133 hf
    refine zq_wg 2 (pc' := 109) (lv' := [some (.ref y62), some (.int y63)]) (st' := [.int (50 : Int32), .int y63]) (h' := h64) rfl ?_
    refine zr_if ((50 : Int32) ≤ y63) 133 112 (st' := []) rfl rfl (fun b65 => ?_) (fun b65 => ?_)
    · have hf := zo_t hf b65
      refine zq_fg [some (.ref y62), none] (zq_lvle_s (zq_lvle_n zq_lvle_nil)) ?_
      exact hk133 y62 h64 hf
    · have hf := zo_f hf b65
      refine zq_wg 1 (pc' := 113) (lv' := [some (.ref y62), some (.int y63)]) (st' := [.ref y62]) (h' := h64) rfl ?_
      obtain ⟨v66, e67, hf⟩ := zo_b_s hf
      refine zr_gR rfl rfl (by decide) rfl e67 ?_
      refine zq_wg 2 (pc' := 118) (lv' := [some (.ref y62), some (.int y63)]) (st' := [.ref y62, .int y63, .ref v66]) (h' := h64) rfl ?_
      obtain ⟨v68, e69, hf⟩ := zo_b_s hf
      refine zr_gR rfl rfl (by decide) rfl e69 ?_
      refine zq_wg 3 (pc' := 125) (lv' := [some (.ref y62), some (.int y63)]) (st' := [.int ((50 : Int32) + y63), .ref v68, .int y63, .ref v66]) (h' := h64) rfl ?_
      obtain ⟨v70, e71, hf⟩ := zo_b_s hf
      refine zr_iald rfl e71 ?_
      obtain ⟨h72, e73, hf⟩ := zo_b_s hf
      refine zr_iast rfl e73 ?_
      refine zq_wg 2 (pc' := 106) (lv' := [some (.ref y62), some (.int (y63 + (1 : Int32)))]) (st' := []) (h' := h72) rfl ?_
      exact ih y62 (y63 + (1 : Int32)) h72 _ _ _ hk133 hf
set_option maxRecDepth 4000 in
theorem zm_army_l135_ok (sc : zX) (d : Nat) (hd : 67 ≤ d) : ∀ (n : Nat) (y76 : Nat) (y77 : Int32) (h78 : zH) (k181 : Nat → zH → Option (Int32 × zH)) (ro_ : Int32) (ho_ : zH), (∀ (z0 : Nat) (hz : zH), k181 z0 hz = some (ro_, ho_) → zq_wp sc (d + 1) 154 181 [some (.ref z0), none] [] hz (some (.int ro_), ho_)) → zm_army_l135 sc n y76 y77 h78 k181 = some (ro_, ho_) → zq_wp sc (d + 1) 154 135 [some (.ref y76), some (.int y77)] [] h78 (some (.int ro_), ho_) := by
  intro n
  induction n with
  | zero => intro y76 y77 h78 k181 ro_ ho_ hk181 hf; cases hf
  | succ n ih =>
    intro y76 y77 h78 k181 ro_ ho_ hk181 hf
    refine zq_wg 2 (pc' := 137) (lv' := [some (.ref y76), some (.int y77)]) (st' := [.ref y76, .int y77]) (h' := h78) rfl ?_
    obtain ⟨v79, e80, hf⟩ := zo_b_s hf
    refine zr_gI rfl rfl (by decide) rfl e80 ?_
    refine zr_if (v79 ≤ y77) 181 143 (st' := []) rfl rfl (fun b81 => ?_) (fun b81 => ?_)
    · have hf := zo_t hf b81
      refine zq_fg [some (.ref y76), none] (zq_lvle_s (zq_lvle_n zq_lvle_nil)) ?_
      exact hk181 y76 h78 hf
    · have hf := zo_f hf b81
      refine zq_wg 1 (pc' := 144) (lv' := [some (.ref y76), some (.int y77)]) (st' := [.ref y76]) (h' := h78) rfl ?_
      obtain ⟨v82, e83, hf⟩ := zo_b_s hf
      refine zr_gR rfl rfl (by decide) rfl e83 ?_
      refine zq_wg 2 (pc' := 149) (lv' := [some (.ref y76), some (.int y77)]) (st' := [.ref y76, .int y77, .ref v82]) (h' := h78) rfl ?_
      obtain ⟨v84, e85, hf⟩ := zo_b_s hf
      refine zr_gR rfl rfl (by decide) rfl e85 ?_
      refine zq_wg 3 (pc' := 157) (lv' := [some (.ref y76), some (.int y77)]) (st' := [.int ((1100 : Int32) + y77), .ref v84, .int y77, .ref v82]) (h' := h78) rfl ?_
      obtain ⟨v86, e87, hf⟩ := zo_b_s hf
      refine zr_iald rfl e87 ?_
      obtain ⟨h88, e89, hf⟩ := zo_b_s hf
      refine zr_iast rfl e89 ?_
      refine zq_wg 1 (pc' := 160) (lv' := [some (.ref y76), some (.int y77)]) (st' := [.ref y76]) (h' := h88) rfl ?_
      obtain ⟨v90, e91, hf⟩ := zo_b_s hf
      refine zr_gR rfl rfl (by decide) rfl e91 ?_
      refine zq_wg 2 (pc' := 165) (lv' := [some (.ref y76), some (.int y77)]) (st' := [.ref y76, .int y77, .ref v90]) (h' := h88) rfl ?_
      obtain ⟨v92, e93, hf⟩ := zo_b_s hf
      refine zr_gR rfl rfl (by decide) rfl e93 ?_
      refine zq_wg 3 (pc' := 173) (lv' := [some (.ref y76), some (.int y77)]) (st' := [.int ((1100 : Int32) + y77), .ref v92, .int y77, .ref v90]) (h' := h88) rfl ?_
      obtain ⟨v94, e95, hf⟩ := zo_b_s hf
      refine zr_iald rfl e95 ?_
      obtain ⟨h96, e97, hf⟩ := zo_b_s hf
      refine zr_iast rfl e97 ?_
      refine zq_wg 2 (pc' := 135) (lv' := [some (.ref y76), some (.int (y77 + (1 : Int32)))]) (st' := []) (h' := h96) rfl ?_
      exact ih y76 (y77 + (1 : Int32)) h96 _ _ _ hk181 hf
set_option maxRecDepth 4000 in
theorem zm_army_l183_ok (sc : zX) (d : Nat) (hd : 67 ≤ d) : ∀ (n : Nat) (y100 : Nat) (y101 : Int32) (h102 : zH) (k221 : Nat → zH → Option (Int32 × zH)) (ro_ : Int32) (ho_ : zH), (∀ (z0 : Nat) (hz : zH), k221 z0 hz = some (ro_, ho_) → zq_wp sc (d + 1) 154 221 [some (.ref z0), none] [] hz (some (.int ro_), ho_)) → zm_army_l183 sc n y100 y101 h102 k221 = some (ro_, ho_) → zq_wp sc (d + 1) 154 183 [some (.ref y100), some (.int y101)] [] h102 (some (.int ro_), ho_) := by
  intro n
  induction n with
  | zero => intro y100 y101 h102 k221 ro_ ho_ hk221 hf; cases hf
  | succ n ih =>
    intro y100 y101 h102 k221 ro_ ho_ hk221 hf
    refine zq_wg 2 (pc' := 185) (lv' := [some (.ref y100), some (.int y101)]) (st' := [.ref y100, .int y101]) (h' := h102) rfl ?_
    obtain ⟨v103, e104, hf⟩ := zo_b_s hf
    refine zr_gI rfl rfl (by decide) rfl e104 ?_
    refine zr_if (v103 ≤ y101) 221 191 (st' := []) rfl rfl (fun b105 => ?_) (fun b105 => ?_)
    · have hf := zo_t hf b105
      refine zq_fg [some (.ref y100), none] (zq_lvle_s (zq_lvle_n zq_lvle_nil)) ?_
      exact hk221 y100 h102 hf
    · have hf := zo_f hf b105
      refine zq_wg 1 (pc' := 192) (lv' := [some (.ref y100), some (.int y101)]) (st' := [.ref y100]) (h' := h102) rfl ?_
      obtain ⟨v106, e107, hf⟩ := zo_b_s hf
      refine zr_gR rfl rfl (by decide) rfl e107 ?_
      refine zq_wg 2 (pc' := 197) (lv' := [some (.ref y100), some (.int y101)]) (st' := [.ref y100, .int y101, .ref v106]) (h' := h102) rfl ?_
      obtain ⟨v108, e109, hf⟩ := zo_b_s hf
      refine zr_gR rfl rfl (by decide) rfl e109 ?_
      refine zq_wg 1 (pc' := 201) (lv' := [some (.ref y100), some (.int y101)]) (st' := [.int y101, .ref v108, .int y101, .ref v106]) (h' := h102) rfl ?_
      obtain ⟨v110, e111, hf⟩ := zo_b_s hf
      refine zr_lald rfl e111 ?_
      obtain ⟨h112, e113, hf⟩ := zo_b_s hf
      refine zr_last rfl e113 ?_
      refine zq_wg 1 (pc' := 204) (lv' := [some (.ref y100), some (.int y101)]) (st' := [.ref y100]) (h' := h112) rfl ?_
      obtain ⟨v114, e115, hf⟩ := zo_b_s hf
      refine zr_gR rfl rfl (by decide) rfl e115 ?_
      refine zq_wg 2 (pc' := 209) (lv' := [some (.ref y100), some (.int y101)]) (st' := [.ref y100, .int y101, .ref v114]) (h' := h112) rfl ?_
      obtain ⟨v116, e117, hf⟩ := zo_b_s hf
      refine zr_gR rfl rfl (by decide) rfl e117 ?_
      refine zq_wg 1 (pc' := 213) (lv' := [some (.ref y100), some (.int y101)]) (st' := [.int y101, .ref v116, .int y101, .ref v114]) (h' := h112) rfl ?_
      obtain ⟨v118, e119, hf⟩ := zo_b_s hf
      refine zr_iald rfl e119 ?_
      obtain ⟨h120, e121, hf⟩ := zo_b_s hf
      refine zr_iast rfl e121 ?_
      refine zq_wg 2 (pc' := 183) (lv' := [some (.ref y100), some (.int (y101 + (1 : Int32)))]) (st' := []) (h' := h120) rfl ?_
      exact ih y100 (y101 + (1 : Int32)) h120 _ _ _ hk221 hf
set_option maxRecDepth 4000 in
theorem zm_army_ok (sc : zX) (d : Nat) (hd : 68 ≤ d) {a0 : Nat} {h : zH} {ro_ : Int32} {ho_ : zH} (hf : zm_army sc a0 h = some (ro_, ho_)) : zq_wm sc d 154 [.ref a0] h (some (.int ro_), ho_) := by
  unfold zm_army at hf
  obtain ⟨d, rfl⟩ : ∃ d', d = d' + 1 := ⟨d - 1, by omega⟩
  have hd : 67 ≤ d := by omega
  show zq_wp sc (d + 1) 154 0 [some (.ref a0), none] [] h _
  refine zq_wg 2 (pc' := 2) (lv' := [some (.ref a0), none]) (st' := [.int (0 : Int32), .ref a0]) (h' := h) rfl ?_
  obtain ⟨h1, e2, hf⟩ := zo_b_s hf
  refine zr_pI rfl rfl (by decide) rfl rfl e2 ?_
  refine zq_wg 1 (pc' := 6) (lv' := [some (.ref a0), none]) (st' := [.ref a0]) (h' := h1) rfl ?_
  obtain ⟨e6, w4, h3, e5, hf⟩ := zo_v_s hf
  refine zr_cv zq_m155 [] [] rfl rfl rfl rfl rfl (Nat.le_of_ble_eq_true rfl) (Nat.le_of_ble_eq_true rfl) e6 (zm_cutAll_ok sc d (by omega) e5) ?_
  refine zq_wg 0 (pc' := 9) (lv' := [some (.ref a0), none]) (st' := []) (h' := h3) rfl ?_
  refine zq_wg 2 (pc' := 11) (lv' := [some (.ref a0), none]) (st' := [.int (0 : Int32), .ref a0]) (h' := h3) rfl ?_
  obtain ⟨h7, e8, hf⟩ := zo_b_s hf
  refine zr_pI rfl rfl (by decide) rfl rfl e8 ?_
  refine zq_wg 2 (pc' := 16) (lv' := [some (.ref a0), none]) (st' := [.int (0 : Int32), .ref a0]) (h' := h7) rfl ?_
  obtain ⟨h9, e10, hf⟩ := zo_b_s hf
  refine zr_pI rfl rfl (by decide) rfl rfl e10 ?_
  refine zq_wg 2 (pc' := 21) (lv' := [some (.ref a0), none]) (st' := [.int (0 : Int32), .ref a0]) (h' := h9) rfl ?_
  obtain ⟨h11, e12, hf⟩ := zo_b_s hf
  refine zr_pI rfl rfl (by decide) rfl rfl e12 ?_
  refine zq_wg 2 (pc' := 27) (lv' := [some (.ref a0), none]) (st' := [.int (50 : Int32), .ref a0]) (h' := h11) rfl ?_
  obtain ⟨e16, w14, h13, e15, hf⟩ := zo_v_s hf
  refine zr_cv zq_m148 [.int (50 : Int32)] [] rfl rfl rfl rfl rfl (Nat.le_of_ble_eq_true rfl) (Nat.le_of_ble_eq_true rfl) e16 (zm_standsAsAlways_ok sc d (by omega) e15) ?_
  refine zq_wg 0 (pc' := 30) (lv' := [some (.ref a0), none]) (st' := []) (h' := h13) rfl ?_
  refine zm_army_l30_ok sc d hd zo_F a0 h13 _ _ _ ?_ hf
  · intro x57 h58 hf
    refine zq_wg 1 (pc' := 93) (lv' := [some (.ref x57), none]) (st' := [.ref x57]) (h' := h58) rfl ?_
    obtain ⟨v59, e60, hf⟩ := zo_b_s hf
    refine zr_gI rfl rfl (by decide) rfl e60 ?_
    refine zr_if (v59 ≤ 0) 104 99 (st' := []) rfl rfl (fun b61 => ?_) (fun b61 => ?_)
    · have hf := zo_t hf b61
      refine zq_wg 2 (pc' := 106) (lv' := [some (.ref x57), some (.int (0 : Int32))]) (st' := []) (h' := h58) rfl ?_
      refine zm_army_l106_ok sc d hd zo_F x57 (0 : Int32) h58 _ _ _ ?_ hf
      · intro x74 h75 hf
        refine zq_wg 2 (pc' := 135) (lv' := [some (.ref x74), some (.int (0 : Int32))]) (st' := []) (h' := h75) rfl ?_
        refine zm_army_l135_ok sc d hd zo_F x74 (0 : Int32) h75 _ _ _ ?_ hf
        · intro x98 h99 hf
          refine zq_wg 2 (pc' := 183) (lv' := [some (.ref x98), some (.int (0 : Int32))]) (st' := []) (h' := h99) rfl ?_
          refine zm_army_l183_ok sc d hd zo_F x98 (0 : Int32) h99 _ _ _ ?_ hf
          · intro x122 h123 hf
            refine zq_wg 2 (pc' := 223) (lv' := [some (.ref x122), none]) (st' := [.ref x122, .ref x122]) (h' := h123) rfl ?_
            obtain ⟨v124, e125, hf⟩ := zo_b_s hf
            refine zr_gI rfl rfl (by decide) rfl e125 ?_
            obtain ⟨h126, e127, hf⟩ := zo_b_s hf
            refine zr_pI rfl rfl (by decide) rfl rfl e127 ?_
            refine zq_wg 1 (pc' := 230) (lv' := [some (.ref x122), none]) (st' := [.ref x122]) (h' := h126) rfl ?_
            obtain ⟨e131, w129, h128, e130, hf⟩ := zo_v_s hf
            refine zr_cv zq_m149 [] [] rfl rfl rfl rfl rfl (Nat.le_of_ble_eq_true rfl) (Nat.le_of_ble_eq_true rfl) e131 (zm_begins_ok sc d (by omega) e130) ?_
            refine zq_wg 0 (pc' := 233) (lv' := [some (.ref x122), none]) (st' := []) (h' := h128) rfl ?_
            refine zq_wg 1 (pc' := 234) (lv' := [some (.ref x122), none]) (st' := [.int (0 : Int32)]) (h' := h128) rfl ?_
            exact zr_ri rfl rfl rfl hf
    · have hf := zo_f hf b61
      refine zq_wg 1 (pc' := 100) (lv' := [some (.ref x57), none]) (st' := [.ref x57]) (h' := h58) rfl ?_
      obtain ⟨v132, e133, hf⟩ := zo_b_s hf
      refine zr_gI rfl rfl (by decide) rfl e133 ?_
      exact zr_ri rfl rfl rfl hf
set_option maxRecDepth 4000 in
def zm_readWar (sc : zX) (a0 : Nat) (a1 : Int32) (a2 : Int32) (h : zH) : Option (Unit × zH) := if a1 = (1 : Int32) then (zo_b (zo_gR h 10 a0 22) (fun v2 => zo_v h a0 10 (zm_toldHere sc a0 (0 : Int32) (20 : Int32) (6 : Int32) h) (fun v5 h4 => zo_b (zq_wrX 1 h4 v2 a2 v5) (fun h8 => zo_b (zo_gI h8 10 a0 7) (fun v10 => zo_b (zo_gI h8 10 a0 8) (fun v12 => zo_l (if v12 ≤ 0 then (1 : Int32) else (0 : Int32)) (fun (x14 : Int32) => zo_b (zo_pI h8 10 a0 7 (v10 + x14)) (fun h15 => zo_b (zo_gR h15 10 a0 22) (fun v17 => zo_v h15 a0 10 (zm_toldHere sc a0 (0 : Int32) (20 : Int32) (6 : Int32) h15) (fun v20 h19 => zo_b (zq_wrX 1 h19 v17 (a2 + (1 : Int32)) v20) (fun h23 => zo_b (zo_gI h23 10 a0 8) (fun v25 => zo_l (fun (x27 : Nat) (x28 : Int32) (h29 : zH) => zo_b (zo_gI h29 10 x27 7) (fun v30 => zo_b (zo_gI h29 10 x27 8) (fun v32 => zo_l (if v32 ≤ 0 then (1 : Int32) else (0 : Int32)) (fun (x34 : Int32) => zo_b (zo_pI h29 10 x27 7 (v30 + x34)) (fun h35 => zo_b (zo_gR h35 10 x27 22) (fun v37 => zo_v h35 x27 10 (zm_takeNumber sc x27 (0 : Int32) (999 : Int32) h35) (fun v40 h39 => zo_b (zq_wrX 1 h39 v37 (x28 + (2 : Int32)) v40) (fun h43 => some ((), h43))))))))) (fun j87_29 => if v25 = 0 then (zo_b (zo_gR h23 10 a0 22) (fun v47 => zo_b (zq_rdI sc h23 v47 a2) (fun v49 => zo_b (zo_gR h23 10 a0 22) (fun v51 => zo_b (zq_rdI sc h23 v51 (a2 + (1 : Int32))) (fun v53 => if v49 = v53 then (zo_v h23 a0 10 (zm_wrong sc a0 (3 : Int32) h23) (fun w57 h56 => j87_29 a0 a2 h56)) else (j87_29 a0 a2 h23)))))) else (j87_29 a0 a2 h23)))))))))))))) else (zo_b (zo_gR h 10 a0 22) (fun v61 => zo_l (fun (x63 : Nat) (x64 : Int32) (x65 : Int32) (h66 : zH) => zo_b (zq_wrX 1 h66 x63 x64 x65) (fun h67 => some ((), h67))) (fun j169_66 => if a1 = 0 then (zo_v h a0 10 (zm_takeNumber sc a0 (0 : Int32) (9999 : Int32) h) (fun v71 h70 => j169_66 v61 a2 v71 h70)) else (if a1 = (2 : Int32) then (zo_v h a0 10 (zm_takeOne sc a0 (19 : Int32) (3 : Int32) h) (fun v76 h75 => j169_66 v61 a2 v76 h75)) else (zo_v h a0 10 (zm_takeNumber sc a0 (1 : Int32) (13 : Int32) h) (fun v80 h79 => j169_66 v61 a2 v80 h79))))))
set_option maxRecDepth 4000 in
theorem zm_readWar_ok (sc : zX) (d : Nat) (hd : 4 ≤ d) {a0 : Nat} {a1 : Int32} {a2 : Int32} {h : zH} {ro_ : Unit} {ho_ : zH} (hf : zm_readWar sc a0 a1 a2 h = some (ro_, ho_)) : zq_wm sc d 186 [.ref a0, .int a1, .int a2] h (none, ho_) := by
  unfold zm_readWar at hf
  obtain ⟨d, rfl⟩ : ∃ d', d = d' + 1 := ⟨d - 1, by omega⟩
  have hd : 3 ≤ d := by omega
  show zq_wp sc (d + 1) 186 0 [some (.ref a0), some (.int a1), some (.int a2)] [] h _
  refine zq_wg 2 (pc' := 2) (lv' := [some (.ref a0), some (.int a1), some (.int a2)]) (st' := [.int (1 : Int32), .int a1]) (h' := h) rfl ?_
  refine zr_if (a1 = (1 : Int32)) 5 127 (st' := []) rfl rfl (fun b1 => ?_) (fun b1 => ?_)
  · have hf := zo_t hf b1
    refine zq_wg 1 (pc' := 6) (lv' := [some (.ref a0), some (.int a1), some (.int a2)]) (st' := [.ref a0]) (h' := h) rfl ?_
    obtain ⟨v2, e3, hf⟩ := zo_b_s hf
    refine zr_gR rfl rfl (by decide) rfl e3 ?_
    refine zq_wg 5 (pc' := 16) (lv' := [some (.ref a0), some (.int a1), some (.int a2)]) (st' := [.int (6 : Int32), .int (20 : Int32), .int (0 : Int32), .ref a0, .int a2, .ref v2]) (h' := h) rfl ?_
    obtain ⟨e7, v5, h4, e6, hf⟩ := zo_v_s hf
    refine zr_cv zq_m172 [.int (0 : Int32), .int (20 : Int32), .int (6 : Int32)] [.int a2, .ref v2] rfl rfl rfl rfl rfl (Nat.le_of_ble_eq_true rfl) (Nat.le_of_ble_eq_true rfl) e7 (zm_toldHere_ok sc d (by omega) e6) ?_
    refine zq_wg 0 (pc' := 19) (lv' := [some (.ref a0), some (.int a1), some (.int a2)]) (st' := [.int v5, .int a2, .ref v2]) (h' := h4) rfl ?_
    obtain ⟨h8, e9, hf⟩ := zo_b_s hf
    refine zr_iast rfl e9 ?_
    refine zq_wg 2 (pc' := 22) (lv' := [some (.ref a0), some (.int a1), some (.int a2)]) (st' := [.ref a0, .ref a0]) (h' := h8) rfl ?_
    obtain ⟨v10, e11, hf⟩ := zo_b_s hf
    refine zr_gI rfl rfl (by decide) rfl e11 ?_
    refine zq_wg 1 (pc' := 26) (lv' := [some (.ref a0), some (.int a1), some (.int a2)]) (st' := [.ref a0, .int v10, .ref a0]) (h' := h8) rfl ?_
    obtain ⟨v12, e13, hf⟩ := zo_b_s hf
    refine zr_gI rfl rfl (by decide) rfl e13 ?_
    obtain ⟨g37_14, hg37_14, hf⟩ := zo_lx hf
    have kg37_14 : ∀ (x14 : Int32), g37_14 x14 = some (ro_, ho_) → zq_wp sc (d + 1) 186 37 [some (.ref a0), some (.int a1), some (.int a2)] [.int x14, .int v10, .ref a0] h8 (none, ho_) := by
      intro x14 hf
      rw [hg37_14] at hf
      refine zq_wg 1 (pc' := 38) (lv' := [some (.ref a0), some (.int a1), some (.int a2)]) (st' := [.int (v10 + x14), .ref a0]) (h' := h8) rfl ?_
      obtain ⟨h15, e16, hf⟩ := zo_b_s hf
      refine zr_pI rfl rfl (by decide) rfl rfl e16 ?_
      refine zq_wg 1 (pc' := 42) (lv' := [some (.ref a0), some (.int a1), some (.int a2)]) (st' := [.ref a0]) (h' := h15) rfl ?_
      obtain ⟨v17, e18, hf⟩ := zo_b_s hf
      refine zr_gR rfl rfl (by decide) rfl e18 ?_
      refine zq_wg 7 (pc' := 54) (lv' := [some (.ref a0), some (.int a1), some (.int a2)]) (st' := [.int (6 : Int32), .int (20 : Int32), .int (0 : Int32), .ref a0, .int (a2 + (1 : Int32)), .ref v17]) (h' := h15) rfl ?_
      obtain ⟨e22, v20, h19, e21, hf⟩ := zo_v_s hf
      refine zr_cv zq_m172 [.int (0 : Int32), .int (20 : Int32), .int (6 : Int32)] [.int (a2 + (1 : Int32)), .ref v17] rfl rfl rfl rfl rfl (Nat.le_of_ble_eq_true rfl) (Nat.le_of_ble_eq_true rfl) e22 (zm_toldHere_ok sc d (by omega) e21) ?_
      refine zq_wg 0 (pc' := 57) (lv' := [some (.ref a0), some (.int a1), some (.int a2)]) (st' := [.int v20, .int (a2 + (1 : Int32)), .ref v17]) (h' := h19) rfl ?_
      obtain ⟨h23, e24, hf⟩ := zo_b_s hf
      refine zr_iast rfl e24 ?_
      refine zq_wg 1 (pc' := 59) (lv' := [some (.ref a0), some (.int a1), some (.int a2)]) (st' := [.ref a0]) (h' := h23) rfl ?_
      obtain ⟨v25, e26, hf⟩ := zo_b_s hf
      refine zr_gI rfl rfl (by decide) rfl e26 ?_
      obtain ⟨j87_29, hjj87_29, hf⟩ := zo_lj hf
      have kj87_29 : ∀ (x27 : Nat) (x28 : Int32) (h29 : zH), j87_29 x27 x28 h29 = some (ro_, ho_) → zq_wp sc (d + 1) 186 87 [some (.ref x27), none, some (.int x28)] [] h29 (none, ho_) := by
        intro x27 x28 h29 hf
        rw [hjj87_29] at hf
        refine zq_wg 2 (pc' := 89) (lv' := [some (.ref x27), none, some (.int x28)]) (st' := [.ref x27, .ref x27]) (h' := h29) rfl ?_
        obtain ⟨v30, e31, hf⟩ := zo_b_s hf
        refine zr_gI rfl rfl (by decide) rfl e31 ?_
        refine zq_wg 1 (pc' := 93) (lv' := [some (.ref x27), none, some (.int x28)]) (st' := [.ref x27, .int v30, .ref x27]) (h' := h29) rfl ?_
        obtain ⟨v32, e33, hf⟩ := zo_b_s hf
        refine zr_gI rfl rfl (by decide) rfl e33 ?_
        obtain ⟨g104_34, hg104_34, hf⟩ := zo_lx hf
        have kg104_34 : ∀ (x34 : Int32), g104_34 x34 = some (ro_, ho_) → zq_wp sc (d + 1) 186 104 [some (.ref x27), none, some (.int x28)] [.int x34, .int v30, .ref x27] h29 (none, ho_) := by
          intro x34 hf
          rw [hg104_34] at hf
          refine zq_wg 1 (pc' := 105) (lv' := [some (.ref x27), none, some (.int x28)]) (st' := [.int (v30 + x34), .ref x27]) (h' := h29) rfl ?_
          obtain ⟨h35, e36, hf⟩ := zo_b_s hf
          refine zr_pI rfl rfl (by decide) rfl rfl e36 ?_
          refine zq_wg 1 (pc' := 109) (lv' := [some (.ref x27), none, some (.int x28)]) (st' := [.ref x27]) (h' := h35) rfl ?_
          obtain ⟨v37, e38, hf⟩ := zo_b_s hf
          refine zr_gR rfl rfl (by decide) rfl e38 ?_
          refine zq_wg 6 (pc' := 120) (lv' := [some (.ref x27), none, some (.int x28)]) (st' := [.int (999 : Int32), .int (0 : Int32), .ref x27, .int (x28 + (2 : Int32)), .ref v37]) (h' := h35) rfl ?_
          obtain ⟨e42, v40, h39, e41, hf⟩ := zo_v_s hf
          refine zr_cv zq_m171 [.int (0 : Int32), .int (999 : Int32)] [.int (x28 + (2 : Int32)), .ref v37] rfl rfl rfl rfl rfl (Nat.le_of_ble_eq_true rfl) (Nat.le_of_ble_eq_true rfl) e42 (zm_takeNumber_ok sc d (by omega) e41) ?_
          refine zq_wg 0 (pc' := 123) (lv' := [some (.ref x27), none, some (.int x28)]) (st' := [.int v40, .int (x28 + (2 : Int32)), .ref v37]) (h' := h39) rfl ?_
          obtain ⟨h43, e44, hf⟩ := zo_b_s hf
          refine zr_iast rfl e44 ?_
          refine zq_wg 1 (pc' := 170) (lv' := [some (.ref x27), none, some (.int x28)]) (st' := []) (h' := h43) rfl ?_
          exact zr_rv rfl rfl hf
        refine zr_if (v32 ≤ 0) 103 99 (st' := [.int v30, .ref x27]) rfl rfl (fun b45 => ?_) (fun b45 => ?_)
        · have hf := zo_lt hf b45
          refine zq_wg 1 (pc' := 104) (lv' := [some (.ref x27), none, some (.int x28)]) (st' := [.int (1 : Int32), .int v30, .ref x27]) (h' := h29) rfl ?_
          exact kg104_34 _ hf
        · have hf := zo_lf hf b45
          refine zq_wg 2 (pc' := 104) (lv' := [some (.ref x27), none, some (.int x28)]) (st' := [.int (0 : Int32), .int v30, .ref x27]) (h' := h29) rfl ?_
          exact kg104_34 _ hf
      refine zr_if (v25 = 0) 65 87 (st' := []) rfl rfl (fun b46 => ?_) (fun b46 => ?_)
      · have hf := zo_t hf b46
        refine zq_wg 1 (pc' := 66) (lv' := [some (.ref a0), some (.int a1), some (.int a2)]) (st' := [.ref a0]) (h' := h23) rfl ?_
        obtain ⟨v47, e48, hf⟩ := zo_b_s hf
        refine zr_gR rfl rfl (by decide) rfl e48 ?_
        refine zq_wg 1 (pc' := 70) (lv' := [some (.ref a0), some (.int a1), some (.int a2)]) (st' := [.int a2, .ref v47]) (h' := h23) rfl ?_
        obtain ⟨v49, e50, hf⟩ := zo_b_s hf
        refine zr_iald rfl e50 ?_
        refine zq_wg 1 (pc' := 72) (lv' := [some (.ref a0), some (.int a1), some (.int a2)]) (st' := [.ref a0, .int v49]) (h' := h23) rfl ?_
        obtain ⟨v51, e52, hf⟩ := zo_b_s hf
        refine zr_gR rfl rfl (by decide) rfl e52 ?_
        refine zq_wg 3 (pc' := 78) (lv' := [some (.ref a0), some (.int a1), some (.int a2)]) (st' := [.int (a2 + (1 : Int32)), .ref v51, .int v49]) (h' := h23) rfl ?_
        obtain ⟨v53, e54, hf⟩ := zo_b_s hf
        refine zr_iald rfl e54 ?_
        refine zr_if (v49 = v53) 82 87 (st' := []) rfl rfl (fun b55 => ?_) (fun b55 => ?_)
        · have hf := zo_t hf b55
          refine zq_wg 2 (pc' := 84) (lv' := [some (.ref a0), some (.int a1), some (.int a2)]) (st' := [.int (3 : Int32), .ref a0]) (h' := h23) rfl ?_
          obtain ⟨e59, w57, h56, e58, hf⟩ := zo_v_s hf
          refine zr_cv zq_m162 [.int (3 : Int32)] [] rfl rfl rfl rfl rfl (Nat.le_of_ble_eq_true rfl) (Nat.le_of_ble_eq_true rfl) e59 (zm_wrong_ok sc d (by omega) e58) ?_
          refine zq_wg 0 (pc' := 87) (lv' := [some (.ref a0), some (.int a1), some (.int a2)]) (st' := []) (h' := h56) rfl ?_
          refine zq_fg [some (.ref a0), none, some (.int a2)] (zq_lvle_s (zq_lvle_n (zq_lvle_s zq_lvle_nil))) ?_
          exact kj87_29 a0 a2 h56 hf
        · have hf := zo_f hf b55
          refine zq_fg [some (.ref a0), none, some (.int a2)] (zq_lvle_s (zq_lvle_n (zq_lvle_s zq_lvle_nil))) ?_
          exact kj87_29 a0 a2 h23 hf
      · have hf := zo_f hf b46
        refine zq_fg [some (.ref a0), none, some (.int a2)] (zq_lvle_s (zq_lvle_n (zq_lvle_s zq_lvle_nil))) ?_
        exact kj87_29 a0 a2 h23 hf
    refine zr_if (v12 ≤ 0) 36 32 (st' := [.int v10, .ref a0]) rfl rfl (fun b60 => ?_) (fun b60 => ?_)
    · have hf := zo_lt hf b60
      refine zq_wg 1 (pc' := 37) (lv' := [some (.ref a0), some (.int a1), some (.int a2)]) (st' := [.int (1 : Int32), .int v10, .ref a0]) (h' := h8) rfl ?_
      exact kg37_14 _ hf
    · have hf := zo_lf hf b60
      refine zq_wg 2 (pc' := 37) (lv' := [some (.ref a0), some (.int a1), some (.int a2)]) (st' := [.int (0 : Int32), .int v10, .ref a0]) (h' := h8) rfl ?_
      exact kg37_14 _ hf
  · have hf := zo_f hf b1
    refine zq_wg 1 (pc' := 128) (lv' := [some (.ref a0), some (.int a1), some (.int a2)]) (st' := [.ref a0]) (h' := h) rfl ?_
    obtain ⟨v61, e62, hf⟩ := zo_b_s hf
    refine zr_gR rfl rfl (by decide) rfl e62 ?_
    refine zq_wg 2 (pc' := 133) (lv' := [some (.ref a0), some (.int a1), some (.int a2)]) (st' := [.int a1, .int a2, .ref v61]) (h' := h) rfl ?_
    obtain ⟨j169_66, hjj169_66, hf⟩ := zo_lj hf
    have kj169_66 : ∀ (x63 : Nat) (x64 : Int32) (x65 : Int32) (h66 : zH), j169_66 x63 x64 x65 h66 = some (ro_, ho_) → zq_wp sc (d + 1) 186 169 [none, none, none] [.int x65, .int x64, .ref x63] h66 (none, ho_) := by
      intro x63 x64 x65 h66 hf
      rw [hjj169_66] at hf
      obtain ⟨h67, e68, hf⟩ := zo_b_s hf
      refine zr_iast rfl e68 ?_
      exact zr_rv rfl rfl hf
    refine zr_if (a1 = 0) 136 147 (st' := [.int a2, .ref v61]) rfl rfl (fun b69 => ?_) (fun b69 => ?_)
    · have hf := zo_t hf b69
      refine zq_wg 3 (pc' := 141) (lv' := [some (.ref a0), some (.int a1), some (.int a2)]) (st' := [.int (9999 : Int32), .int (0 : Int32), .ref a0, .int a2, .ref v61]) (h' := h) rfl ?_
      obtain ⟨e73, v71, h70, e72, hf⟩ := zo_v_s hf
      refine zr_cv zq_m171 [.int (0 : Int32), .int (9999 : Int32)] [.int a2, .ref v61] rfl rfl rfl rfl rfl (Nat.le_of_ble_eq_true rfl) (Nat.le_of_ble_eq_true rfl) e73 (zm_takeNumber_ok sc d (by omega) e72) ?_
      refine zq_wg 0 (pc' := 144) (lv' := [some (.ref a0), some (.int a1), some (.int a2)]) (st' := [.int v71, .int a2, .ref v61]) (h' := h70) rfl ?_
      refine zq_wg 1 (pc' := 169) (lv' := [some (.ref a0), some (.int a1), some (.int a2)]) (st' := [.int v71, .int a2, .ref v61]) (h' := h70) rfl ?_
      refine zq_fg [none, none, none] (zq_lvle_n (zq_lvle_n (zq_lvle_n zq_lvle_nil))) ?_
      exact kj169_66 v61 a2 v71 h70 hf
    · have hf := zo_f hf b69
      refine zq_wg 2 (pc' := 149) (lv' := [some (.ref a0), some (.int a1), some (.int a2)]) (st' := [.int (2 : Int32), .int a1, .int a2, .ref v61]) (h' := h) rfl ?_
      refine zr_if (a1 = (2 : Int32)) 152 162 (st' := [.int a2, .ref v61]) rfl rfl (fun b74 => ?_) (fun b74 => ?_)
      · have hf := zo_t hf b74
        refine zq_wg 3 (pc' := 156) (lv' := [some (.ref a0), some (.int a1), some (.int a2)]) (st' := [.int (3 : Int32), .int (19 : Int32), .ref a0, .int a2, .ref v61]) (h' := h) rfl ?_
        obtain ⟨e78, v76, h75, e77, hf⟩ := zo_v_s hf
        refine zr_cv zq_m167 [.int (19 : Int32), .int (3 : Int32)] [.int a2, .ref v61] rfl rfl rfl rfl rfl (Nat.le_of_ble_eq_true rfl) (Nat.le_of_ble_eq_true rfl) e78 (zm_takeOne_ok sc d (by omega) e77) ?_
        refine zq_wg 0 (pc' := 159) (lv' := [some (.ref a0), some (.int a1), some (.int a2)]) (st' := [.int v76, .int a2, .ref v61]) (h' := h75) rfl ?_
        refine zq_wg 1 (pc' := 169) (lv' := [some (.ref a0), some (.int a1), some (.int a2)]) (st' := [.int v76, .int a2, .ref v61]) (h' := h75) rfl ?_
        refine zq_fg [none, none, none] (zq_lvle_n (zq_lvle_n (zq_lvle_n zq_lvle_nil))) ?_
        exact kj169_66 v61 a2 v76 h75 hf
      · have hf := zo_f hf b74
        refine zq_wg 3 (pc' := 166) (lv' := [some (.ref a0), some (.int a1), some (.int a2)]) (st' := [.int (13 : Int32), .int (1 : Int32), .ref a0, .int a2, .ref v61]) (h' := h) rfl ?_
        obtain ⟨e82, v80, h79, e81, hf⟩ := zo_v_s hf
        refine zr_cv zq_m171 [.int (1 : Int32), .int (13 : Int32)] [.int a2, .ref v61] rfl rfl rfl rfl rfl (Nat.le_of_ble_eq_true rfl) (Nat.le_of_ble_eq_true rfl) e82 (zm_takeNumber_ok sc d (by omega) e81) ?_
        refine zq_wg 0 (pc' := 169) (lv' := [some (.ref a0), some (.int a1), some (.int a2)]) (st' := [.int v80, .int a2, .ref v61]) (h' := h79) rfl ?_
        refine zq_fg [none, none, none] (zq_lvle_n (zq_lvle_n (zq_lvle_n zq_lvle_nil))) ?_
        exact kj169_66 v61 a2 v80 h79 hf
set_option maxRecDepth 4000 in
def zm_war_l11 (sc : zX) : Nat → Nat → Int32 → zH → (Nat → Int32 → zH → Option (Int32 × zH)) → Option (Int32 × zH)
  | 0, _, _, _, _ => none
  | n + 1, y7, y8, h9, k109 => zo_b (zo_gI h9 10 y7 8) (fun v10 => if v10 = 0 then (zo_b (zo_gR h9 10 y7 4) (fun v13 => zo_b (zo_gI h9 10 y7 7) (fun v15 => zo_b (zq_rdI sc h9 v13 v15) (fun v17 => if v17 = 0 then (k109 y7 y8 h9) else (zo_v h9 y7 10 (zm_wordHere sc y7 (15 : Int32) (4 : Int32) h9) (fun v21 h20 => zo_l (fun (x24 : Nat) (x25 : Int32) (h26 : zH) => zo_v h26 x24 10 (zm_takeSign sc x24 (59 : Int32) h26) (fun w28 h27 => zm_war_l11 sc n x24 x25 h27 k109)) (fun j100_26 => if 0 ≤ v21 then (if y8 = (24 : Int32) then (zo_v h20 y7 10 (zm_wrong sc y7 (5 : Int32) h20) (fun w34 h33 => j100_26 y7 y8 h33)) else (zo_b (zo_gI h20 10 y7 7) (fun v37 => zo_b (zo_pI h20 10 y7 7 (v37 + (1 : Int32))) (fun h39 => zo_b (zo_gR h39 10 y7 22) (fun v41 => zo_b (zq_wrX 1 h39 v41 ((110 : Int32) + ((4 : Int32) * y8)) v21) (fun h43 => zo_v h43 y7 10 (zm_readWar sc y7 v21 ((111 : Int32) + ((4 : Int32) * y8)) h43) (fun w46 h45 => j100_26 y7 (y8 + (1 : Int32)) h45))))))) else (zo_v h20 y7 10 (zm_wrong sc y7 (1 : Int32) h20) (fun w50 h49 => j100_26 y7 y8 h49))))))))) else (k109 y7 y8 h9))
set_option maxRecDepth 4000 in
def zm_war_l130 (sc : zX) : Nat → Nat → Int32 → Int32 → zH → Option (Int32 × zH)
  | 0, _, _, _, _ => none
  | n + 1, y63, y64, y65, h66 => if ((4 : Int32) * y64) ≤ y65 then (some ((0 : Int32), h66)) else (zo_b (zo_gR h66 10 y63 22) (fun v68 => zo_b (zo_gR h66 10 y63 22) (fun v70 => zo_b (zq_rdI sc h66 v70 ((110 : Int32) + y65)) (fun v72 => zo_b (zq_wrX 1 h66 v68 ((1 : Int32) + y65) v72) (fun h74 => zm_war_l130 sc n y63 y64 (y65 + (1 : Int32)) h74 )))))
set_option maxRecDepth 4000 in
def zm_war (sc : zX) (a0 : Nat) (h : zH) : Option (Int32 × zH) := zo_b (zo_pI h 10 a0 0 (0 : Int32)) (fun h1 => zo_v h1 a0 10 (zm_cutAll sc a0 h1) (fun w4 h3 => zm_war_l11 sc zo_F a0 (0 : Int32) h3 (fun (x53 : Nat) (x54 : Int32) (h55 : zH) => zo_b (zo_gI h55 10 x53 8) (fun v56 => if v56 ≤ 0 then (zo_b (zo_gR h55 10 x53 22) (fun v59 => zo_b (zq_wrX 1 h55 v59 (0 : Int32) x54) (fun h61 => zm_war_l130 sc zo_F x53 x54 (0 : Int32) h61 ))) else (zo_b (zo_gI h55 10 x53 8) (fun v76 => some (v76, h55)))))))
set_option maxRecDepth 4000 in
theorem zm_war_l11_ok (sc : zX) (d : Nat) (hd : 4 ≤ d) : ∀ (n : Nat) (y7 : Nat) (y8 : Int32) (h9 : zH) (k109 : Nat → Int32 → zH → Option (Int32 × zH)) (ro_ : Int32) (ho_ : zH), (∀ (z0 : Nat) (z1 : Int32) (hz : zH), k109 z0 z1 hz = some (ro_, ho_) → zq_wp sc (d + 1) 185 109 [some (.ref z0), some (.int z1), none] [] hz (some (.int ro_), ho_)) → zm_war_l11 sc n y7 y8 h9 k109 = some (ro_, ho_) → zq_wp sc (d + 1) 185 11 [some (.ref y7), some (.int y8), none] [] h9 (some (.int ro_), ho_) := by
  intro n
  induction n with
  | zero => intro y7 y8 h9 k109 ro_ ho_ hk109 hf; cases hf
  | succ n ih =>
    intro y7 y8 h9 k109 ro_ ho_ hk109 hf
    refine zq_wg 1 (pc' := 12) (lv' := [some (.ref y7), some (.int y8), none]) (st' := [.ref y7]) (h' := h9) rfl ?_
    obtain ⟨v10, e11, hf⟩ := zo_b_s hf
    refine zr_gI rfl rfl (by decide) rfl e11 ?_
    refine zr_if (v10 = 0) 18 109 (st' := []) rfl rfl (fun b12 => ?_) (fun b12 => ?_)
    · have hf := zo_t hf b12
      refine zq_wg 1 (pc' := 19) (lv' := [some (.ref y7), some (.int y8), none]) (st' := [.ref y7]) (h' := h9) rfl ?_
      obtain ⟨v13, e14, hf⟩ := zo_b_s hf
      refine zr_gR rfl rfl (by decide) rfl e14 ?_
      refine zq_wg 1 (pc' := 23) (lv' := [some (.ref y7), some (.int y8), none]) (st' := [.ref y7, .ref v13]) (h' := h9) rfl ?_
      obtain ⟨v15, e16, hf⟩ := zo_b_s hf
      refine zr_gI rfl rfl (by decide) rfl e16 ?_
      obtain ⟨v17, e18, hf⟩ := zo_b_s hf
      refine zr_iald rfl e18 ?_
      refine zr_if (v17 = 0) 109 30 (st' := []) rfl rfl (fun b19 => ?_) (fun b19 => ?_)
      · have hf := zo_t hf b19
        exact hk109 y7 y8 h9 hf
      · have hf := zo_f hf b19
        refine zq_wg 3 (pc' := 34) (lv' := [some (.ref y7), some (.int y8), none]) (st' := [.int (4 : Int32), .int (15 : Int32), .ref y7]) (h' := h9) rfl ?_
        obtain ⟨e23, v21, h20, e22, hf⟩ := zo_v_s hf
        refine zr_cv zq_m165 [.int (15 : Int32), .int (4 : Int32)] [] rfl rfl rfl rfl rfl (Nat.le_of_ble_eq_true rfl) (Nat.le_of_ble_eq_true rfl) e23 (zm_wordHere_ok sc d (by omega) e22) ?_
        refine zq_wg 0 (pc' := 37) (lv' := [some (.ref y7), some (.int y8), none]) (st' := [.int v21]) (h' := h20) rfl ?_
        refine zq_wg 2 (pc' := 39) (lv' := [some (.ref y7), some (.int y8), some (.int v21)]) (st' := [.int v21]) (h' := h20) rfl ?_
        obtain ⟨j100_26, hjj100_26, hf⟩ := zo_lj hf
        have kj100_26 : ∀ (x24 : Nat) (x25 : Int32) (h26 : zH), j100_26 x24 x25 h26 = some (ro_, ho_) → zq_wp sc (d + 1) 185 100 [some (.ref x24), some (.int x25), none] [] h26 (some (.int ro_), ho_) := by
          intro x24 x25 h26 hf
          rw [hjj100_26] at hf
          refine zq_wg 2 (pc' := 103) (lv' := [some (.ref x24), some (.int x25), none]) (st' := [.int (59 : Int32), .ref x24]) (h' := h26) rfl ?_
          obtain ⟨e30, w28, h27, e29, hf⟩ := zo_v_s hf
          refine zr_cv zq_m184 [.int (59 : Int32)] [] rfl rfl rfl rfl rfl (Nat.le_of_ble_eq_true rfl) (Nat.le_of_ble_eq_true rfl) e30 (zm_takeSign_ok sc d (by omega) e29) ?_
          refine zq_wg 0 (pc' := 106) (lv' := [some (.ref x24), some (.int x25), none]) (st' := []) (h' := h27) rfl ?_
          refine zq_wg 1 (pc' := 11) (lv' := [some (.ref x24), some (.int x25), none]) (st' := []) (h' := h27) rfl ?_
          exact ih x24 x25 h27 _ _ _ hk109 hf
        refine zr_if (0 ≤ v21) 50 42 (st' := []) rfl rfl (fun b31 => ?_) (fun b31 => ?_)
        · have hf := zo_t hf b31
          refine zq_wg 2 (pc' := 53) (lv' := [some (.ref y7), some (.int y8), some (.int v21)]) (st' := [.int (24 : Int32), .int y8]) (h' := h20) rfl ?_
          refine zr_if (y8 = (24 : Int32)) 56 64 (st' := []) rfl rfl (fun b32 => ?_) (fun b32 => ?_)
          · have hf := zo_t hf b32
            refine zq_wg 2 (pc' := 58) (lv' := [some (.ref y7), some (.int y8), some (.int v21)]) (st' := [.int (5 : Int32), .ref y7]) (h' := h20) rfl ?_
            obtain ⟨e36, w34, h33, e35, hf⟩ := zo_v_s hf
            refine zr_cv zq_m162 [.int (5 : Int32)] [] rfl rfl rfl rfl rfl (Nat.le_of_ble_eq_true rfl) (Nat.le_of_ble_eq_true rfl) e36 (zm_wrong_ok sc d (by omega) e35) ?_
            refine zq_wg 0 (pc' := 61) (lv' := [some (.ref y7), some (.int y8), some (.int v21)]) (st' := []) (h' := h33) rfl ?_
            refine zq_wg 1 (pc' := 100) (lv' := [some (.ref y7), some (.int y8), some (.int v21)]) (st' := []) (h' := h33) rfl ?_
            refine zq_fg [some (.ref y7), some (.int y8), none] (zq_lvle_s (zq_lvle_s (zq_lvle_n zq_lvle_nil))) ?_
            exact kj100_26 y7 y8 h33 hf
          · have hf := zo_f hf b32
            refine zq_wg 2 (pc' := 66) (lv' := [some (.ref y7), some (.int y8), some (.int v21)]) (st' := [.ref y7, .ref y7]) (h' := h20) rfl ?_
            obtain ⟨v37, e38, hf⟩ := zo_b_s hf
            refine zr_gI rfl rfl (by decide) rfl e38 ?_
            refine zq_wg 2 (pc' := 71) (lv' := [some (.ref y7), some (.int y8), some (.int v21)]) (st' := [.int (v37 + (1 : Int32)), .ref y7]) (h' := h20) rfl ?_
            obtain ⟨h39, e40, hf⟩ := zo_b_s hf
            refine zr_pI rfl rfl (by decide) rfl rfl e40 ?_
            refine zq_wg 1 (pc' := 75) (lv' := [some (.ref y7), some (.int y8), some (.int v21)]) (st' := [.ref y7]) (h' := h39) rfl ?_
            obtain ⟨v41, e42, hf⟩ := zo_b_s hf
            refine zr_gR rfl rfl (by decide) rfl e42 ?_
            refine zq_wg 6 (pc' := 85) (lv' := [some (.ref y7), some (.int y8), some (.int v21)]) (st' := [.int v21, .int ((110 : Int32) + ((4 : Int32) * y8)), .ref v41]) (h' := h39) rfl ?_
            obtain ⟨h43, e44, hf⟩ := zo_b_s hf
            refine zr_iast rfl e44 ?_
            refine zq_wg 7 (pc' := 94) (lv' := [some (.ref y7), some (.int y8), some (.int v21)]) (st' := [.int ((111 : Int32) + ((4 : Int32) * y8)), .int v21, .ref y7]) (h' := h43) rfl ?_
            obtain ⟨e48, w46, h45, e47, hf⟩ := zo_v_s hf
            refine zr_cv zq_m186 [.int v21, .int ((111 : Int32) + ((4 : Int32) * y8))] [] rfl rfl rfl rfl rfl (Nat.le_of_ble_eq_true rfl) (Nat.le_of_ble_eq_true rfl) e48 (zm_readWar_ok sc d (by omega) e47) ?_
            refine zq_wg 0 (pc' := 97) (lv' := [some (.ref y7), some (.int y8), some (.int v21)]) (st' := []) (h' := h45) rfl ?_
            refine zq_wg 1 (pc' := 100) (lv' := [some (.ref y7), some (.int (y8 + (1 : Int32))), some (.int v21)]) (st' := []) (h' := h45) rfl ?_
            refine zq_fg [some (.ref y7), some (.int (y8 + (1 : Int32))), none] (zq_lvle_s (zq_lvle_s (zq_lvle_n zq_lvle_nil))) ?_
            exact kj100_26 y7 (y8 + (1 : Int32)) h45 hf
        · have hf := zo_f hf b31
          refine zq_wg 2 (pc' := 44) (lv' := [some (.ref y7), some (.int y8), some (.int v21)]) (st' := [.int (1 : Int32), .ref y7]) (h' := h20) rfl ?_
          obtain ⟨e52, w50, h49, e51, hf⟩ := zo_v_s hf
          refine zr_cv zq_m162 [.int (1 : Int32)] [] rfl rfl rfl rfl rfl (Nat.le_of_ble_eq_true rfl) (Nat.le_of_ble_eq_true rfl) e52 (zm_wrong_ok sc d (by omega) e51) ?_
          refine zq_wg 0 (pc' := 47) (lv' := [some (.ref y7), some (.int y8), some (.int v21)]) (st' := []) (h' := h49) rfl ?_
          refine zq_wg 1 (pc' := 100) (lv' := [some (.ref y7), some (.int y8), some (.int v21)]) (st' := []) (h' := h49) rfl ?_
          refine zq_fg [some (.ref y7), some (.int y8), none] (zq_lvle_s (zq_lvle_s (zq_lvle_n zq_lvle_nil))) ?_
          exact kj100_26 y7 y8 h49 hf
    · have hf := zo_f hf b12
      exact hk109 y7 y8 h9 hf
set_option maxRecDepth 4000 in
theorem zm_war_l130_ok (sc : zX) (d : Nat) (hd : 4 ≤ d) : ∀ (n : Nat) (y63 : Nat) (y64 : Int32) (y65 : Int32) (h66 : zH) (ro_ : Int32) (ho_ : zH),  zm_war_l130 sc n y63 y64 y65 h66  = some (ro_, ho_) → zq_wp sc (d + 1) 185 130 [some (.ref y63), some (.int y64), some (.int y65)] [] h66 (some (.int ro_), ho_) := by
  intro n
  induction n with
  | zero => intro y63 y64 y65 h66 ro_ ho_ hf; cases hf
  | succ n ih =>
    intro y63 y64 y65 h66 ro_ ho_ hf
    refine zq_wg 4 (pc' := 134) (lv' := [some (.ref y63), some (.int y64), some (.int y65)]) (st' := [.int ((4 : Int32) * y64), .int y65]) (h' := h66) rfl ?_
    refine zr_if (((4 : Int32) * y64) ≤ y65) 160 137 (st' := []) rfl rfl (fun b67 => ?_) (fun b67 => ?_)
    · have hf := zo_t hf b67
      refine zq_wg 1 (pc' := 161) (lv' := [some (.ref y63), some (.int y64), some (.int y65)]) (st' := [.int (0 : Int32)]) (h' := h66) rfl ?_
      exact zr_ri rfl rfl rfl hf
    · have hf := zo_f hf b67
      refine zq_wg 1 (pc' := 138) (lv' := [some (.ref y63), some (.int y64), some (.int y65)]) (st' := [.ref y63]) (h' := h66) rfl ?_
      obtain ⟨v68, e69, hf⟩ := zo_b_s hf
      refine zr_gR rfl rfl (by decide) rfl e69 ?_
      refine zq_wg 4 (pc' := 145) (lv' := [some (.ref y63), some (.int y64), some (.int y65)]) (st' := [.ref y63, .int ((1 : Int32) + y65), .ref v68]) (h' := h66) rfl ?_
      obtain ⟨v70, e71, hf⟩ := zo_b_s hf
      refine zr_gR rfl rfl (by decide) rfl e71 ?_
      refine zq_wg 3 (pc' := 152) (lv' := [some (.ref y63), some (.int y64), some (.int y65)]) (st' := [.int ((110 : Int32) + y65), .ref v70, .int ((1 : Int32) + y65), .ref v68]) (h' := h66) rfl ?_
      obtain ⟨v72, e73, hf⟩ := zo_b_s hf
      refine zr_iald rfl e73 ?_
      obtain ⟨h74, e75, hf⟩ := zo_b_s hf
      refine zr_iast rfl e75 ?_
      refine zq_wg 2 (pc' := 130) (lv' := [some (.ref y63), some (.int y64), some (.int (y65 + (1 : Int32)))]) (st' := []) (h' := h74) rfl ?_
      exact ih y63 y64 (y65 + (1 : Int32)) h74 _ _ hf
set_option maxRecDepth 4000 in
theorem zm_war_ok (sc : zX) (d : Nat) (hd : 5 ≤ d) {a0 : Nat} {h : zH} {ro_ : Int32} {ho_ : zH} (hf : zm_war sc a0 h = some (ro_, ho_)) : zq_wm sc d 185 [.ref a0] h (some (.int ro_), ho_) := by
  unfold zm_war at hf
  obtain ⟨d, rfl⟩ : ∃ d', d = d' + 1 := ⟨d - 1, by omega⟩
  have hd : 4 ≤ d := by omega
  show zq_wp sc (d + 1) 185 0 [some (.ref a0), none, none] [] h _
  refine zq_wg 2 (pc' := 2) (lv' := [some (.ref a0), none, none]) (st' := [.int (0 : Int32), .ref a0]) (h' := h) rfl ?_
  obtain ⟨h1, e2, hf⟩ := zo_b_s hf
  refine zr_pI rfl rfl (by decide) rfl rfl e2 ?_
  refine zq_wg 1 (pc' := 6) (lv' := [some (.ref a0), none, none]) (st' := [.ref a0]) (h' := h1) rfl ?_
  obtain ⟨e6, w4, h3, e5, hf⟩ := zo_v_s hf
  refine zr_cv zq_m155 [] [] rfl rfl rfl rfl rfl (Nat.le_of_ble_eq_true rfl) (Nat.le_of_ble_eq_true rfl) e6 (zm_cutAll_ok sc d (by omega) e5) ?_
  refine zq_wg 0 (pc' := 9) (lv' := [some (.ref a0), none, none]) (st' := []) (h' := h3) rfl ?_
  refine zq_wg 2 (pc' := 11) (lv' := [some (.ref a0), some (.int (0 : Int32)), none]) (st' := []) (h' := h3) rfl ?_
  refine zm_war_l11_ok sc d hd zo_F a0 (0 : Int32) h3 _ _ _ ?_ hf
  · intro x53 x54 h55 hf
    refine zq_wg 1 (pc' := 110) (lv' := [some (.ref x53), some (.int x54), none]) (st' := [.ref x53]) (h' := h55) rfl ?_
    obtain ⟨v56, e57, hf⟩ := zo_b_s hf
    refine zr_gI rfl rfl (by decide) rfl e57 ?_
    refine zr_if (v56 ≤ 0) 121 116 (st' := []) rfl rfl (fun b58 => ?_) (fun b58 => ?_)
    · have hf := zo_t hf b58
      refine zq_wg 1 (pc' := 122) (lv' := [some (.ref x53), some (.int x54), none]) (st' := [.ref x53]) (h' := h55) rfl ?_
      obtain ⟨v59, e60, hf⟩ := zo_b_s hf
      refine zr_gR rfl rfl (by decide) rfl e60 ?_
      refine zq_wg 2 (pc' := 127) (lv' := [some (.ref x53), some (.int x54), none]) (st' := [.int x54, .int (0 : Int32), .ref v59]) (h' := h55) rfl ?_
      obtain ⟨h61, e62, hf⟩ := zo_b_s hf
      refine zr_iast rfl e62 ?_
      refine zq_wg 2 (pc' := 130) (lv' := [some (.ref x53), some (.int x54), some (.int (0 : Int32))]) (st' := []) (h' := h61) rfl ?_
      refine zm_war_l130_ok sc d hd zo_F x53 x54 (0 : Int32) h61 _ _ hf
    · have hf := zo_f hf b58
      refine zq_wg 1 (pc' := 117) (lv' := [some (.ref x53), some (.int x54), none]) (st' := [.ref x53]) (h' := h55) rfl ?_
      obtain ⟨v76, e77, hf⟩ := zo_b_s hf
      refine zr_gI rfl rfl (by decide) rfl e77 ?_
      exact zr_ri rfl rfl rfl hf
set_option maxRecDepth 4000 in
def zm_isPost (sc : zX) (a0 : Nat) (a1 : Int32) (h : zH) : Option (Int32 × zH) := if a1 < 0 then (some ((0 : Int32), h)) else (zo_v h a0 10 (zm_posts sc a0 h) (fun v3 h2 => if v3 ≤ a1 then (some ((0 : Int32), h2)) else (some ((1 : Int32), h2))))
set_option maxRecDepth 4000 in
theorem zm_isPost_ok (sc : zX) (d : Nat) (hd : 1 ≤ d) {a0 : Nat} {a1 : Int32} {h : zH} {ro_ : Int32} {ho_ : zH} (hf : zm_isPost sc a0 a1 h = some (ro_, ho_)) : zq_wm sc d 188 [.ref a0, .int a1] h (some (.int ro_), ho_) := by
  unfold zm_isPost at hf
  obtain ⟨d, rfl⟩ : ∃ d', d = d' + 1 := ⟨d - 1, by omega⟩
  have hd : 0 ≤ d := by omega
  show zq_wp sc (d + 1) 188 0 [some (.ref a0), some (.int a1)] [] h _
  refine zq_wg 1 (pc' := 1) (lv' := [some (.ref a0), some (.int a1)]) (st' := [.int a1]) (h' := h) rfl ?_
  refine zr_if (a1 < 0) 16 4 (st' := []) rfl rfl (fun b1 => ?_) (fun b1 => ?_)
  · have hf := zo_t hf b1
    refine zq_wg 1 (pc' := 17) (lv' := [some (.ref a0), some (.int a1)]) (st' := [.int (0 : Int32)]) (h' := h) rfl ?_
    exact zr_ri rfl rfl rfl hf
  · have hf := zo_f hf b1
    refine zq_wg 2 (pc' := 6) (lv' := [some (.ref a0), some (.int a1)]) (st' := [.ref a0, .int a1]) (h' := h) rfl ?_
    obtain ⟨e5, v3, h2, e4, hf⟩ := zo_v_s hf
    refine zr_cv zq_m151 [] [.int a1] rfl rfl rfl rfl rfl (Nat.le_of_ble_eq_true rfl) (Nat.le_of_ble_eq_true rfl) e5 (zm_posts_ok sc d (by omega) e4) ?_
    refine zq_wg 0 (pc' := 9) (lv' := [some (.ref a0), some (.int a1)]) (st' := [.int v3, .int a1]) (h' := h2) rfl ?_
    refine zr_if (v3 ≤ a1) 16 12 (st' := []) rfl rfl (fun b6 => ?_) (fun b6 => ?_)
    · have hf := zo_t hf b6
      refine zq_wg 1 (pc' := 17) (lv' := [some (.ref a0), some (.int a1)]) (st' := [.int (0 : Int32)]) (h' := h2) rfl ?_
      exact zr_ri rfl rfl rfl hf
    · have hf := zo_f hf b6
      refine zq_wg 2 (pc' := 17) (lv' := [some (.ref a0), some (.int a1)]) (st' := [.int (1 : Int32)]) (h' := h2) rfl ?_
      exact zr_ri rfl rfl rfl hf
set_option maxRecDepth 4000 in
def zm_postOf (sc : zX) (a0 : Nat) (a1 : Int32) (a2 : Int32) (h : zH) : Option (Int32 × zH) := zo_b (zo_gR h 10 a0 10) (fun v1 => zo_b (zq_rdI sc h v1 (((10 : Int32) + ((3 : Int32) * a1)) + a2)) (fun v3 => some (v3, h)))
set_option maxRecDepth 4000 in
theorem zm_postOf_ok (sc : zX) (d : Nat) (hd : 0 ≤ d) {a0 : Nat} {a1 : Int32} {a2 : Int32} {h : zH} {ro_ : Int32} {ho_ : zH} (hf : zm_postOf sc a0 a1 a2 h = some (ro_, ho_)) : zq_wm sc d 193 [.ref a0, .int a1, .int a2] h (some (.int ro_), ho_) := by
  unfold zm_postOf at hf
  show zq_wp sc d 193 0 [some (.ref a0), some (.int a1), some (.int a2)] [] h _
  refine zq_wg 1 (pc' := 1) (lv' := [some (.ref a0), some (.int a1), some (.int a2)]) (st' := [.ref a0]) (h' := h) rfl ?_
  obtain ⟨v1, e2, hf⟩ := zo_b_s hf
  refine zr_gR rfl rfl (by decide) rfl e2 ?_
  refine zq_wg 7 (pc' := 12) (lv' := [some (.ref a0), some (.int a1), some (.int a2)]) (st' := [.int (((10 : Int32) + ((3 : Int32) * a1)) + a2), .ref v1]) (h' := h) rfl ?_
  obtain ⟨v3, e4, hf⟩ := zo_b_s hf
  refine zr_iald rfl e4 ?_
  exact zr_ri rfl rfl rfl hf
set_option maxRecDepth 4000 in
def zm_laysFacts (sc : zX) (a0 : Nat) (a1 : Int32) (a2 : Int32) (h : zH) : Option (Unit × zH) := zo_b (zo_gR h 10 a0 23) (fun v1 => zo_v h a0 10 (zm_manOf sc a0 a1 (0 : Int32) h) (fun v4 h3 => zo_b (zq_wrX 1 h3 v1 (0 : Int32) v4) (fun h7 => zo_b (zo_gR h7 10 a0 23) (fun v9 => zo_v h7 a0 10 (zm_manOf sc a0 a1 (1 : Int32) h7) (fun v12 h11 => zo_b (zq_wrX 1 h11 v9 (1 : Int32) v12) (fun h15 => zo_b (zo_gR h15 10 a0 23) (fun v17 => zo_v h15 a0 10 (zm_postOf sc a0 a2 (1 : Int32) h15) (fun v20 h19 => zo_b (zq_wrX 1 h19 v17 (2 : Int32) v20) (fun h23 => zo_b (zo_gR h23 10 a0 23) (fun v25 => zo_v h23 a0 10 (zm_postOf sc a0 a2 (0 : Int32) h23) (fun v28 h27 => zo_b (zq_wrX 1 h27 v25 (3 : Int32) v28) (fun h31 => some ((), h31)))))))))))))
set_option maxRecDepth 4000 in
theorem zm_laysFacts_ok (sc : zX) (d : Nat) (hd : 1 ≤ d) {a0 : Nat} {a1 : Int32} {a2 : Int32} {h : zH} {ro_ : Unit} {ho_ : zH} (hf : zm_laysFacts sc a0 a1 a2 h = some (ro_, ho_)) : zq_wm sc d 192 [.ref a0, .int a1, .int a2] h (none, ho_) := by
  unfold zm_laysFacts at hf
  obtain ⟨d, rfl⟩ : ∃ d', d = d' + 1 := ⟨d - 1, by omega⟩
  have hd : 0 ≤ d := by omega
  show zq_wp sc (d + 1) 192 0 [some (.ref a0), some (.int a1), some (.int a2)] [] h _
  refine zq_wg 1 (pc' := 1) (lv' := [some (.ref a0), some (.int a1), some (.int a2)]) (st' := [.ref a0]) (h' := h) rfl ?_
  obtain ⟨v1, e2, hf⟩ := zo_b_s hf
  refine zr_gR rfl rfl (by decide) rfl e2 ?_
  refine zq_wg 4 (pc' := 8) (lv' := [some (.ref a0), some (.int a1), some (.int a2)]) (st' := [.int (0 : Int32), .int a1, .ref a0, .int (0 : Int32), .ref v1]) (h' := h) rfl ?_
  obtain ⟨e6, v4, h3, e5, hf⟩ := zo_v_s hf
  refine zr_cv zq_m153 [.int a1, .int (0 : Int32)] [.int (0 : Int32), .ref v1] rfl rfl rfl rfl rfl (Nat.le_of_ble_eq_true rfl) (Nat.le_of_ble_eq_true rfl) e6 (zm_manOf_ok sc d (by omega) e5) ?_
  refine zq_wg 0 (pc' := 11) (lv' := [some (.ref a0), some (.int a1), some (.int a2)]) (st' := [.int v4, .int (0 : Int32), .ref v1]) (h' := h3) rfl ?_
  obtain ⟨h7, e8, hf⟩ := zo_b_s hf
  refine zr_iast rfl e8 ?_
  refine zq_wg 1 (pc' := 13) (lv' := [some (.ref a0), some (.int a1), some (.int a2)]) (st' := [.ref a0]) (h' := h7) rfl ?_
  obtain ⟨v9, e10, hf⟩ := zo_b_s hf
  refine zr_gR rfl rfl (by decide) rfl e10 ?_
  refine zq_wg 4 (pc' := 20) (lv' := [some (.ref a0), some (.int a1), some (.int a2)]) (st' := [.int (1 : Int32), .int a1, .ref a0, .int (1 : Int32), .ref v9]) (h' := h7) rfl ?_
  obtain ⟨e14, v12, h11, e13, hf⟩ := zo_v_s hf
  refine zr_cv zq_m153 [.int a1, .int (1 : Int32)] [.int (1 : Int32), .ref v9] rfl rfl rfl rfl rfl (Nat.le_of_ble_eq_true rfl) (Nat.le_of_ble_eq_true rfl) e14 (zm_manOf_ok sc d (by omega) e13) ?_
  refine zq_wg 0 (pc' := 23) (lv' := [some (.ref a0), some (.int a1), some (.int a2)]) (st' := [.int v12, .int (1 : Int32), .ref v9]) (h' := h11) rfl ?_
  obtain ⟨h15, e16, hf⟩ := zo_b_s hf
  refine zr_iast rfl e16 ?_
  refine zq_wg 1 (pc' := 25) (lv' := [some (.ref a0), some (.int a1), some (.int a2)]) (st' := [.ref a0]) (h' := h15) rfl ?_
  obtain ⟨v17, e18, hf⟩ := zo_b_s hf
  refine zr_gR rfl rfl (by decide) rfl e18 ?_
  refine zq_wg 4 (pc' := 32) (lv' := [some (.ref a0), some (.int a1), some (.int a2)]) (st' := [.int (1 : Int32), .int a2, .ref a0, .int (2 : Int32), .ref v17]) (h' := h15) rfl ?_
  obtain ⟨e22, v20, h19, e21, hf⟩ := zo_v_s hf
  refine zr_cv zq_m193 [.int a2, .int (1 : Int32)] [.int (2 : Int32), .ref v17] rfl rfl rfl rfl rfl (Nat.le_of_ble_eq_true rfl) (Nat.le_of_ble_eq_true rfl) e22 (zm_postOf_ok sc d (by omega) e21) ?_
  refine zq_wg 0 (pc' := 35) (lv' := [some (.ref a0), some (.int a1), some (.int a2)]) (st' := [.int v20, .int (2 : Int32), .ref v17]) (h' := h19) rfl ?_
  obtain ⟨h23, e24, hf⟩ := zo_b_s hf
  refine zr_iast rfl e24 ?_
  refine zq_wg 1 (pc' := 37) (lv' := [some (.ref a0), some (.int a1), some (.int a2)]) (st' := [.ref a0]) (h' := h23) rfl ?_
  obtain ⟨v25, e26, hf⟩ := zo_b_s hf
  refine zr_gR rfl rfl (by decide) rfl e26 ?_
  refine zq_wg 4 (pc' := 44) (lv' := [some (.ref a0), some (.int a1), some (.int a2)]) (st' := [.int (0 : Int32), .int a2, .ref a0, .int (3 : Int32), .ref v25]) (h' := h23) rfl ?_
  obtain ⟨e30, v28, h27, e29, hf⟩ := zo_v_s hf
  refine zr_cv zq_m193 [.int a2, .int (0 : Int32)] [.int (3 : Int32), .ref v25] rfl rfl rfl rfl rfl (Nat.le_of_ble_eq_true rfl) (Nat.le_of_ble_eq_true rfl) e30 (zm_postOf_ok sc d (by omega) e29) ?_
  refine zq_wg 0 (pc' := 47) (lv' := [some (.ref a0), some (.int a1), some (.int a2)]) (st' := [.int v28, .int (3 : Int32), .ref v25]) (h' := h27) rfl ?_
  obtain ⟨h31, e32, hf⟩ := zo_b_s hf
  refine zr_iast rfl e32 ?_
  exact zr_rv rfl rfl hf
set_option maxRecDepth 4000 in
def zm_both (sc : zX) (a0 : Int32) (a1 : Int32) (a2 : Int32) (h : zH) : Option (Int32 × zH) := if a0 = (4 : Int32) then (some ((a1 + a2), h)) else if a0 = (5 : Int32) then (some ((a1 - a2), h)) else if a0 = (6 : Int32) then (some ((a1 * a2), h)) else if a0 = (7 : Int32) then (if a2 ≤ a1 then (some ((0 : Int32), h)) else (some ((1 : Int32), h))) else if a0 = (8 : Int32) then (if a1 = a2 then (some ((1 : Int32), h)) else (some ((0 : Int32), h))) else if a0 = (9 : Int32) then (if a1 = 0 then (some ((0 : Int32), h)) else (if a2 = 0 then (some ((0 : Int32), h)) else (some ((1 : Int32), h)))) else (zo_l (fun  (h11 : zH) => some ((1 : Int32), h11)) (fun j96_11 => if a1 = 0 then (if a2 = 0 then (some ((0 : Int32), h)) else (j96_11  h)) else (j96_11  h)))
set_option maxRecDepth 4000 in
theorem zm_both_ok (sc : zX) (d : Nat) (hd : 0 ≤ d) {a0 : Int32} {a1 : Int32} {a2 : Int32} {h : zH} {ro_ : Int32} {ho_ : zH} (hf : zm_both sc a0 a1 a2 h = some (ro_, ho_)) : zq_wm sc d 195 [.int a0, .int a1, .int a2] h (some (.int ro_), ho_) := by
  unfold zm_both at hf
  show zq_wp sc d 195 0 [some (.int a0), some (.int a1), some (.int a2)] [] h _
  refine zq_wg 1 (pc' := 1) (lv' := [some (.int a0), some (.int a1), some (.int a2)]) (st' := [.int a0]) (h' := h) rfl ?_
  by_cases b1 : a0 = (4 : Int32)
  · have hf := zo_t hf b1
    refine zr_ts (t := 40) rfl (by rw [b1]; rfl) ?_
    refine zq_wg 3 (pc' := 43) (lv' := [some (.int a0), some (.int a1), some (.int a2)]) (st' := [.int (a1 + a2)]) (h' := h) rfl ?_
    exact zr_ri rfl rfl rfl hf
  have hf := zo_f hf b1
  by_cases b2 : a0 = (5 : Int32)
  · have hf := zo_t hf b2
    refine zr_ts (t := 44) rfl (by rw [b2]; rfl) ?_
    refine zq_wg 3 (pc' := 47) (lv' := [some (.int a0), some (.int a1), some (.int a2)]) (st' := [.int (a1 - a2)]) (h' := h) rfl ?_
    exact zr_ri rfl rfl rfl hf
  have hf := zo_f hf b2
  by_cases b3 : a0 = (6 : Int32)
  · have hf := zo_t hf b3
    refine zr_ts (t := 48) rfl (by rw [b3]; rfl) ?_
    refine zq_wg 3 (pc' := 51) (lv' := [some (.int a0), some (.int a1), some (.int a2)]) (st' := [.int (a1 * a2)]) (h' := h) rfl ?_
    exact zr_ri rfl rfl rfl hf
  have hf := zo_f hf b3
  by_cases b4 : a0 = (7 : Int32)
  · have hf := zo_t hf b4
    refine zr_ts (t := 52) rfl (by rw [b4]; rfl) ?_
    refine zq_wg 2 (pc' := 54) (lv' := [some (.int a0), some (.int a1), some (.int a2)]) (st' := [.int a2, .int a1]) (h' := h) rfl ?_
    refine zr_if (a2 ≤ a1) 61 57 (st' := []) rfl rfl (fun b5 => ?_) (fun b5 => ?_)
    · have hf := zo_t hf b5
      refine zq_wg 1 (pc' := 62) (lv' := [some (.int a0), some (.int a1), some (.int a2)]) (st' := [.int (0 : Int32)]) (h' := h) rfl ?_
      exact zr_ri rfl rfl rfl hf
    · have hf := zo_f hf b5
      refine zq_wg 2 (pc' := 62) (lv' := [some (.int a0), some (.int a1), some (.int a2)]) (st' := [.int (1 : Int32)]) (h' := h) rfl ?_
      exact zr_ri rfl rfl rfl hf
  have hf := zo_f hf b4
  by_cases b6 : a0 = (8 : Int32)
  · have hf := zo_t hf b6
    refine zr_ts (t := 63) rfl (by rw [b6]; rfl) ?_
    refine zq_wg 2 (pc' := 65) (lv' := [some (.int a0), some (.int a1), some (.int a2)]) (st' := [.int a2, .int a1]) (h' := h) rfl ?_
    refine zr_if (a1 = a2) 68 72 (st' := []) rfl rfl (fun b7 => ?_) (fun b7 => ?_)
    · have hf := zo_t hf b7
      refine zq_wg 2 (pc' := 73) (lv' := [some (.int a0), some (.int a1), some (.int a2)]) (st' := [.int (1 : Int32)]) (h' := h) rfl ?_
      exact zr_ri rfl rfl rfl hf
    · have hf := zo_f hf b7
      refine zq_wg 1 (pc' := 73) (lv' := [some (.int a0), some (.int a1), some (.int a2)]) (st' := [.int (0 : Int32)]) (h' := h) rfl ?_
      exact zr_ri rfl rfl rfl hf
  have hf := zo_f hf b6
  by_cases b8 : a0 = (9 : Int32)
  · have hf := zo_t hf b8
    refine zr_ts (t := 74) rfl (by rw [b8]; rfl) ?_
    refine zq_wg 1 (pc' := 75) (lv' := [some (.int a0), some (.int a1), some (.int a2)]) (st' := [.int a1]) (h' := h) rfl ?_
    refine zr_if (a1 = 0) 86 78 (st' := []) rfl rfl (fun b9 => ?_) (fun b9 => ?_)
    · have hf := zo_t hf b9
      refine zq_wg 1 (pc' := 87) (lv' := [some (.int a0), some (.int a1), some (.int a2)]) (st' := [.int (0 : Int32)]) (h' := h) rfl ?_
      exact zr_ri rfl rfl rfl hf
    · have hf := zo_f hf b9
      refine zq_wg 1 (pc' := 79) (lv' := [some (.int a0), some (.int a1), some (.int a2)]) (st' := [.int a2]) (h' := h) rfl ?_
      refine zr_if (a2 = 0) 86 82 (st' := []) rfl rfl (fun b10 => ?_) (fun b10 => ?_)
      · have hf := zo_t hf b10
        refine zq_wg 1 (pc' := 87) (lv' := [some (.int a0), some (.int a1), some (.int a2)]) (st' := [.int (0 : Int32)]) (h' := h) rfl ?_
        exact zr_ri rfl rfl rfl hf
      · have hf := zo_f hf b10
        refine zq_wg 2 (pc' := 87) (lv' := [some (.int a0), some (.int a1), some (.int a2)]) (st' := [.int (1 : Int32)]) (h' := h) rfl ?_
        exact zr_ri rfl rfl rfl hf
  have hf := zo_f hf b8
  refine zr_ts (t := 88) rfl (by unfold zo_ts; rw [if_pos (by have eb1 := zo_ne b1 (z := 4) (by decide); have eb2 := zo_ne b2 (z := 5) (by decide); have eb3 := zo_ne b3 (z := 6) (by decide); have eb4 := zo_ne b4 (z := 7) (by decide); have eb6 := zo_ne b6 (z := 8) (by decide); have eb8 := zo_ne b8 (z := 9) (by decide); omega)]; rfl) ?_
  refine zq_wg 1 (pc' := 89) (lv' := [some (.int a0), some (.int a1), some (.int a2)]) (st' := [.int a1]) (h' := h) rfl ?_
  obtain ⟨j96_11, hjj96_11, hf⟩ := zo_lj hf
  have kj96_11 : ∀  (h11 : zH), j96_11 h11 = some (ro_, ho_) → zq_wp sc d 195 96 [none, none, none] [] h11 (some (.int ro_), ho_) := by
    intro h11 hf
    rw [hjj96_11] at hf
    refine zq_wg 2 (pc' := 101) (lv' := [none, none, none]) (st' := [.int (1 : Int32)]) (h' := h11) rfl ?_
    exact zr_ri rfl rfl rfl hf
  refine zr_if (a1 = 0) 92 96 (st' := []) rfl rfl (fun b12 => ?_) (fun b12 => ?_)
  · have hf := zo_t hf b12
    refine zq_wg 1 (pc' := 93) (lv' := [some (.int a0), some (.int a1), some (.int a2)]) (st' := [.int a2]) (h' := h) rfl ?_
    refine zr_if (a2 = 0) 100 96 (st' := []) rfl rfl (fun b13 => ?_) (fun b13 => ?_)
    · have hf := zo_t hf b13
      refine zq_wg 1 (pc' := 101) (lv' := [some (.int a0), some (.int a1), some (.int a2)]) (st' := [.int (0 : Int32)]) (h' := h) rfl ?_
      exact zr_ri rfl rfl rfl hf
    · have hf := zo_f hf b13
      refine zq_fg [none, none, none] (zq_lvle_n (zq_lvle_n (zq_lvle_n zq_lvle_nil))) ?_
      exact kj96_11  h hf
  · have hf := zo_f hf b12
    refine zq_fg [none, none, none] (zq_lvle_n (zq_lvle_n (zq_lvle_n zq_lvle_nil))) ?_
    exact kj96_11  h hf
set_option maxRecDepth 4000 in
def zm_worthAt_l4 (sc : zX) : Nat → Nat → Int32 → Int32 → zH → (Nat → zH → Option (Int32 × zH)) → Option (Int32 × zH)
  | 0, _, _, _, _, _ => none
  | n + 1, y1, y2, y3, h4, k140 => zo_b (zo_gR h4 10 y1 11) (fun v5 => zo_b (zq_rdI sc h4 v5 y3) (fun v7 => if v7 = 0 then (k140 y1 h4) else (zo_b (zo_gR h4 10 y1 11) (fun v10 => zo_b (zq_rdI sc h4 v10 y3) (fun v12 => zo_l (fun (x14 : Nat) (x15 : Int32) (x16 : Int32) (h17 : zH) => zm_worthAt_l4 sc n x14 x15 (x16 + (1 : Int32)) h17 k140) (fun j134_17 => zo_l (fun (x18 : Nat) (x19 : Int32) (x20 : Int32) (x21 : Int32) (h22 : zH) => zo_b (zo_gR h22 10 x18 24) (fun v23 => zo_l (fun (x25 : Nat) (x26 : Int32) (x27 : Int32) (x28 : Nat) (x29 : Int32) (x30 : Int32) (h31 : zH) => zo_b (zq_wrX 1 h31 x28 x29 x30) (fun h32 => j134_17 x25 (x26 + (1 : Int32)) x27 h32)) (fun j64_31 => if x21 = (1 : Int32) then (zo_b (zo_gR h22 10 x18 12) (fun v35 => zo_b (zq_rdI sc h22 v35 x20) (fun v37 => j64_31 x18 x19 x20 v23 x19 v37 h22))) else (zo_b (zo_gR h22 10 x18 23) (fun v39 => zo_b (zo_gR h22 10 x18 12) (fun v41 => zo_b (zq_rdI sc h22 v41 x20) (fun v43 => zo_b (zq_rdI sc h22 v39 v43) (fun v45 => j64_31 x18 x19 x20 v23 x19 v45 h22)))))))) (fun j33_22 => if v12 = (1 : Int32) then (j33_22 y1 y2 y3 v12 h4) else (if v12 = (2 : Int32) then (j33_22 y1 y2 y3 v12 h4) else (if v12 = (3 : Int32) then (zo_b (zo_gR h4 10 y1 24) (fun v50 => zo_b (zo_gR h4 10 y1 24) (fun v52 => zo_b (zq_rdI sc h4 v52 (y2 - (1 : Int32))) (fun v54 => zo_l (if v54 = 0 then (1 : Int32) else (0 : Int32)) (fun (x56 : Int32) => zo_b (zq_wrX 1 h4 v50 (y2 - (1 : Int32)) x56) (fun h57 => j134_17 y1 y2 y3 h57)))))) else (zo_b (zo_gR h4 10 y1 24) (fun v60 => zo_b (zo_gR h4 10 y1 24) (fun v62 => zo_b (zq_rdI sc h4 v62 ((y2 + (-1 : Int32)) - (1 : Int32))) (fun v64 => zo_b (zo_gR h4 10 y1 24) (fun v66 => zo_b (zq_rdI sc h4 v66 (y2 + (-1 : Int32))) (fun v68 => zo_c (zm_both sc v12 v64 v68 h4) (fun v71 h70 => zo_b (zq_wrX 1 h70 v60 ((y2 + (-1 : Int32)) - (1 : Int32)) v71) (fun h73 => j134_17 y1 (y2 + (-1 : Int32)) y3 h73)))))))))))))))))
set_option maxRecDepth 4000 in
def zm_worthAt (sc : zX) (a0 : Nat) (a1 : Int32) (h : zH) : Option (Int32 × zH) := zm_worthAt_l4 sc zo_F a0 (0 : Int32) a1 h (fun (x75 : Nat) (h76 : zH) => zo_b (zo_gR h76 10 x75 24) (fun v77 => zo_b (zq_rdI sc h76 v77 (0 : Int32)) (fun v79 => some (v79, h76))))
set_option maxRecDepth 4000 in
theorem zm_worthAt_l4_ok (sc : zX) (d : Nat) (hd : 0 ≤ d) : ∀ (n : Nat) (y1 : Nat) (y2 : Int32) (y3 : Int32) (h4 : zH) (k140 : Nat → zH → Option (Int32 × zH)) (ro_ : Int32) (ho_ : zH), (∀ (z0 : Nat) (hz : zH), k140 z0 hz = some (ro_, ho_) → zq_wp sc (d + 1) 194 140 [some (.ref z0), none, none, none, none] [] hz (some (.int ro_), ho_)) → zm_worthAt_l4 sc n y1 y2 y3 h4 k140 = some (ro_, ho_) → zq_wp sc (d + 1) 194 4 [some (.ref y1), none, some (.int y2), some (.int y3), none] [] h4 (some (.int ro_), ho_) := by
  intro n
  induction n with
  | zero => intro y1 y2 y3 h4 k140 ro_ ho_ hk140 hf; cases hf
  | succ n ih =>
    intro y1 y2 y3 h4 k140 ro_ ho_ hk140 hf
    refine zq_wg 1 (pc' := 5) (lv' := [some (.ref y1), none, some (.int y2), some (.int y3), none]) (st' := [.ref y1]) (h' := h4) rfl ?_
    obtain ⟨v5, e6, hf⟩ := zo_b_s hf
    refine zr_gR rfl rfl (by decide) rfl e6 ?_
    refine zq_wg 1 (pc' := 9) (lv' := [some (.ref y1), none, some (.int y2), some (.int y3), none]) (st' := [.int y3, .ref v5]) (h' := h4) rfl ?_
    obtain ⟨v7, e8, hf⟩ := zo_b_s hf
    refine zr_iald rfl e8 ?_
    refine zr_if (v7 = 0) 140 13 (st' := []) rfl rfl (fun b9 => ?_) (fun b9 => ?_)
    · have hf := zo_t hf b9
      refine zq_fg [some (.ref y1), none, none, none, none] (zq_lvle_s (zq_lvle_s (zq_lvle_n (zq_lvle_n (zq_lvle_s zq_lvle_nil))))) ?_
      exact hk140 y1 h4 hf
    · have hf := zo_f hf b9
      refine zq_wg 1 (pc' := 14) (lv' := [some (.ref y1), none, some (.int y2), some (.int y3), none]) (st' := [.ref y1]) (h' := h4) rfl ?_
      obtain ⟨v10, e11, hf⟩ := zo_b_s hf
      refine zr_gR rfl rfl (by decide) rfl e11 ?_
      refine zq_wg 1 (pc' := 18) (lv' := [some (.ref y1), none, some (.int y2), some (.int y3), none]) (st' := [.int y3, .ref v10]) (h' := h4) rfl ?_
      obtain ⟨v12, e13, hf⟩ := zo_b_s hf
      refine zr_iald rfl e13 ?_
      refine zq_wg 3 (pc' := 24) (lv' := [some (.ref y1), none, some (.int y2), some (.int y3), some (.int v12)]) (st' := [.int (1 : Int32), .int v12]) (h' := h4) rfl ?_
      obtain ⟨j134_17, hjj134_17, hf⟩ := zo_lj hf
      have kj134_17 : ∀ (x14 : Nat) (x15 : Int32) (x16 : Int32) (h17 : zH), j134_17 x14 x15 x16 h17 = some (ro_, ho_) → zq_wp sc (d + 1) 194 134 [some (.ref x14), none, some (.int x15), some (.int x16), none] [] h17 (some (.int ro_), ho_) := by
        intro x14 x15 x16 h17 hf
        rw [hjj134_17] at hf
        refine zq_wg 2 (pc' := 4) (lv' := [some (.ref x14), none, some (.int x15), some (.int (x16 + (1 : Int32))), none]) (st' := []) (h' := h17) rfl ?_
        exact ih x14 x15 (x16 + (1 : Int32)) h17 _ _ _ hk140 hf
      obtain ⟨j33_22, hjj33_22, hf⟩ := zo_lj hf
      have kj33_22 : ∀ (x18 : Nat) (x19 : Int32) (x20 : Int32) (x21 : Int32) (h22 : zH), j33_22 x18 x19 x20 x21 h22 = some (ro_, ho_) → zq_wp sc (d + 1) 194 33 [some (.ref x18), none, some (.int x19), some (.int x20), some (.int x21)] [] h22 (some (.int ro_), ho_) := by
        intro x18 x19 x20 x21 h22 hf
        rw [hjj33_22] at hf
        refine zq_wg 1 (pc' := 34) (lv' := [some (.ref x18), none, some (.int x19), some (.int x20), some (.int x21)]) (st' := [.ref x18]) (h' := h22) rfl ?_
        obtain ⟨v23, e24, hf⟩ := zo_b_s hf
        refine zr_gR rfl rfl (by decide) rfl e24 ?_
        refine zq_wg 3 (pc' := 41) (lv' := [some (.ref x18), none, some (.int x19), some (.int x20), some (.int x21)]) (st' := [.int (1 : Int32), .int x21, .int x19, .ref v23]) (h' := h22) rfl ?_
        obtain ⟨j64_31, hjj64_31, hf⟩ := zo_lj hf
        have kj64_31 : ∀ (x25 : Nat) (x26 : Int32) (x27 : Int32) (x28 : Nat) (x29 : Int32) (x30 : Int32) (h31 : zH), j64_31 x25 x26 x27 x28 x29 x30 h31 = some (ro_, ho_) → zq_wp sc (d + 1) 194 64 [some (.ref x25), none, some (.int x26), some (.int x27), none] [.int x30, .int x29, .ref x28] h31 (some (.int ro_), ho_) := by
          intro x25 x26 x27 x28 x29 x30 h31 hf
          rw [hjj64_31] at hf
          obtain ⟨h32, e33, hf⟩ := zo_b_s hf
          refine zr_iast rfl e33 ?_
          refine zq_wg 2 (pc' := 134) (lv' := [some (.ref x25), none, some (.int (x26 + (1 : Int32))), some (.int x27), none]) (st' := []) (h' := h32) rfl ?_
          exact kj134_17 x25 (x26 + (1 : Int32)) x27 h32 hf
        refine zr_if (x21 = (1 : Int32)) 44 53 (st' := [.int x19, .ref v23]) rfl rfl (fun b34 => ?_) (fun b34 => ?_)
        · have hf := zo_t hf b34
          refine zq_wg 1 (pc' := 45) (lv' := [some (.ref x18), none, some (.int x19), some (.int x20), some (.int x21)]) (st' := [.ref x18, .int x19, .ref v23]) (h' := h22) rfl ?_
          obtain ⟨v35, e36, hf⟩ := zo_b_s hf
          refine zr_gR rfl rfl (by decide) rfl e36 ?_
          refine zq_wg 1 (pc' := 49) (lv' := [some (.ref x18), none, some (.int x19), some (.int x20), some (.int x21)]) (st' := [.int x20, .ref v35, .int x19, .ref v23]) (h' := h22) rfl ?_
          obtain ⟨v37, e38, hf⟩ := zo_b_s hf
          refine zr_iald rfl e38 ?_
          refine zq_wg 1 (pc' := 64) (lv' := [some (.ref x18), none, some (.int x19), some (.int x20), some (.int x21)]) (st' := [.int v37, .int x19, .ref v23]) (h' := h22) rfl ?_
          refine zq_fg [some (.ref x18), none, some (.int x19), some (.int x20), none] (zq_lvle_s (zq_lvle_s (zq_lvle_s (zq_lvle_s (zq_lvle_n zq_lvle_nil))))) ?_
          exact kj64_31 x18 x19 x20 v23 x19 v37 h22 hf
        · have hf := zo_f hf b34
          refine zq_wg 1 (pc' := 54) (lv' := [some (.ref x18), none, some (.int x19), some (.int x20), some (.int x21)]) (st' := [.ref x18, .int x19, .ref v23]) (h' := h22) rfl ?_
          obtain ⟨v39, e40, hf⟩ := zo_b_s hf
          refine zr_gR rfl rfl (by decide) rfl e40 ?_
          refine zq_wg 1 (pc' := 58) (lv' := [some (.ref x18), none, some (.int x19), some (.int x20), some (.int x21)]) (st' := [.ref x18, .ref v39, .int x19, .ref v23]) (h' := h22) rfl ?_
          obtain ⟨v41, e42, hf⟩ := zo_b_s hf
          refine zr_gR rfl rfl (by decide) rfl e42 ?_
          refine zq_wg 1 (pc' := 62) (lv' := [some (.ref x18), none, some (.int x19), some (.int x20), some (.int x21)]) (st' := [.int x20, .ref v41, .ref v39, .int x19, .ref v23]) (h' := h22) rfl ?_
          obtain ⟨v43, e44, hf⟩ := zo_b_s hf
          refine zr_iald rfl e44 ?_
          obtain ⟨v45, e46, hf⟩ := zo_b_s hf
          refine zr_iald rfl e46 ?_
          refine zq_fg [some (.ref x18), none, some (.int x19), some (.int x20), none] (zq_lvle_s (zq_lvle_s (zq_lvle_s (zq_lvle_s (zq_lvle_n zq_lvle_nil))))) ?_
          exact kj64_31 x18 x19 x20 v23 x19 v45 h22 hf
      refine zr_if (v12 = (1 : Int32)) 33 27 (st' := []) rfl rfl (fun b47 => ?_) (fun b47 => ?_)
      · have hf := zo_t hf b47
        exact kj33_22 y1 y2 y3 v12 h4 hf
      · have hf := zo_f hf b47
        refine zq_wg 2 (pc' := 30) (lv' := [some (.ref y1), none, some (.int y2), some (.int y3), some (.int v12)]) (st' := [.int (2 : Int32), .int v12]) (h' := h4) rfl ?_
        refine zr_if (v12 = (2 : Int32)) 33 71 (st' := []) rfl rfl (fun b48 => ?_) (fun b48 => ?_)
        · have hf := zo_t hf b48
          exact kj33_22 y1 y2 y3 v12 h4 hf
        · have hf := zo_f hf b48
          refine zq_wg 2 (pc' := 74) (lv' := [some (.ref y1), none, some (.int y2), some (.int y3), some (.int v12)]) (st' := [.int (3 : Int32), .int v12]) (h' := h4) rfl ?_
          refine zr_if (v12 = (3 : Int32)) 77 104 (st' := []) rfl rfl (fun b49 => ?_) (fun b49 => ?_)
          · have hf := zo_t hf b49
            refine zq_wg 1 (pc' := 78) (lv' := [some (.ref y1), none, some (.int y2), some (.int y3), some (.int v12)]) (st' := [.ref y1]) (h' := h4) rfl ?_
            obtain ⟨v50, e51, hf⟩ := zo_b_s hf
            refine zr_gR rfl rfl (by decide) rfl e51 ?_
            refine zq_wg 4 (pc' := 85) (lv' := [some (.ref y1), none, some (.int y2), some (.int y3), some (.int v12)]) (st' := [.ref y1, .int (y2 - (1 : Int32)), .ref v50]) (h' := h4) rfl ?_
            obtain ⟨v52, e53, hf⟩ := zo_b_s hf
            refine zr_gR rfl rfl (by decide) rfl e53 ?_
            refine zq_wg 3 (pc' := 91) (lv' := [some (.ref y1), none, some (.int y2), some (.int y3), some (.int v12)]) (st' := [.int (y2 - (1 : Int32)), .ref v52, .int (y2 - (1 : Int32)), .ref v50]) (h' := h4) rfl ?_
            obtain ⟨v54, e55, hf⟩ := zo_b_s hf
            refine zr_iald rfl e55 ?_
            obtain ⟨g100_56, hg100_56, hf⟩ := zo_lx hf
            have kg100_56 : ∀ (x56 : Int32), g100_56 x56 = some (ro_, ho_) → zq_wp sc (d + 1) 194 100 [some (.ref y1), none, some (.int y2), some (.int y3), some (.int v12)] [.int x56, .int (y2 - (1 : Int32)), .ref v50] h4 (some (.int ro_), ho_) := by
              intro x56 hf
              rw [hg100_56] at hf
              obtain ⟨h57, e58, hf⟩ := zo_b_s hf
              refine zr_iast rfl e58 ?_
              refine zq_wg 1 (pc' := 134) (lv' := [some (.ref y1), none, some (.int y2), some (.int y3), some (.int v12)]) (st' := []) (h' := h57) rfl ?_
              refine zq_fg [some (.ref y1), none, some (.int y2), some (.int y3), none] (zq_lvle_s (zq_lvle_s (zq_lvle_s (zq_lvle_s (zq_lvle_n zq_lvle_nil))))) ?_
              exact kj134_17 y1 y2 y3 h57 hf
            refine zr_if (v54 = 0) 95 99 (st' := [.int (y2 - (1 : Int32)), .ref v50]) rfl rfl (fun b59 => ?_) (fun b59 => ?_)
            · have hf := zo_lt hf b59
              refine zq_wg 2 (pc' := 100) (lv' := [some (.ref y1), none, some (.int y2), some (.int y3), some (.int v12)]) (st' := [.int (1 : Int32), .int (y2 - (1 : Int32)), .ref v50]) (h' := h4) rfl ?_
              exact kg100_56 _ hf
            · have hf := zo_lf hf b59
              refine zq_wg 1 (pc' := 100) (lv' := [some (.ref y1), none, some (.int y2), some (.int y3), some (.int v12)]) (st' := [.int (0 : Int32), .int (y2 - (1 : Int32)), .ref v50]) (h' := h4) rfl ?_
              exact kg100_56 _ hf
          · have hf := zo_f hf b49
            refine zq_wg 2 (pc' := 108) (lv' := [some (.ref y1), none, some (.int (y2 + (-1 : Int32))), some (.int y3), some (.int v12)]) (st' := [.ref y1]) (h' := h4) rfl ?_
            obtain ⟨v60, e61, hf⟩ := zo_b_s hf
            refine zr_gR rfl rfl (by decide) rfl e61 ?_
            refine zq_wg 5 (pc' := 117) (lv' := [some (.ref y1), none, some (.int (y2 + (-1 : Int32))), some (.int y3), some (.int v12)]) (st' := [.ref y1, .int v12, .int ((y2 + (-1 : Int32)) - (1 : Int32)), .ref v60]) (h' := h4) rfl ?_
            obtain ⟨v62, e63, hf⟩ := zo_b_s hf
            refine zr_gR rfl rfl (by decide) rfl e63 ?_
            refine zq_wg 3 (pc' := 123) (lv' := [some (.ref y1), none, some (.int (y2 + (-1 : Int32))), some (.int y3), some (.int v12)]) (st' := [.int ((y2 + (-1 : Int32)) - (1 : Int32)), .ref v62, .int v12, .int ((y2 + (-1 : Int32)) - (1 : Int32)), .ref v60]) (h' := h4) rfl ?_
            obtain ⟨v64, e65, hf⟩ := zo_b_s hf
            refine zr_iald rfl e65 ?_
            refine zq_wg 1 (pc' := 125) (lv' := [some (.ref y1), none, some (.int (y2 + (-1 : Int32))), some (.int y3), some (.int v12)]) (st' := [.ref y1, .int v64, .int v12, .int ((y2 + (-1 : Int32)) - (1 : Int32)), .ref v60]) (h' := h4) rfl ?_
            obtain ⟨v66, e67, hf⟩ := zo_b_s hf
            refine zr_gR rfl rfl (by decide) rfl e67 ?_
            refine zq_wg 1 (pc' := 129) (lv' := [some (.ref y1), none, some (.int (y2 + (-1 : Int32))), some (.int y3), some (.int v12)]) (st' := [.int (y2 + (-1 : Int32)), .ref v66, .int v64, .int v12, .int ((y2 + (-1 : Int32)) - (1 : Int32)), .ref v60]) (h' := h4) rfl ?_
            obtain ⟨v68, e69, hf⟩ := zo_b_s hf
            refine zr_iald rfl e69 ?_
            obtain ⟨v71, h70, e72, hf⟩ := zo_c_s hf
            refine zr_cs zq_m195 [.int v12, .int v64, .int v68] [.int ((y2 + (-1 : Int32)) - (1 : Int32)), .ref v60] rfl rfl (by decide) rfl rfl rfl (Nat.le_of_ble_eq_true rfl) (Nat.le_of_ble_eq_true rfl) (zm_both_ok sc d (by omega) e72) ?_
            refine zq_wg 0 (pc' := 133) (lv' := [some (.ref y1), none, some (.int (y2 + (-1 : Int32))), some (.int y3), some (.int v12)]) (st' := [.int v71, .int ((y2 + (-1 : Int32)) - (1 : Int32)), .ref v60]) (h' := h70) rfl ?_
            obtain ⟨h73, e74, hf⟩ := zo_b_s hf
            refine zr_iast rfl e74 ?_
            refine zq_fg [some (.ref y1), none, some (.int (y2 + (-1 : Int32))), some (.int y3), none] (zq_lvle_s (zq_lvle_s (zq_lvle_s (zq_lvle_s (zq_lvle_n zq_lvle_nil))))) ?_
            exact kj134_17 y1 (y2 + (-1 : Int32)) y3 h73 hf
set_option maxRecDepth 4000 in
theorem zm_worthAt_ok (sc : zX) (d : Nat) (hd : 1 ≤ d) {a0 : Nat} {a1 : Int32} {h : zH} {ro_ : Int32} {ho_ : zH} (hf : zm_worthAt sc a0 a1 h = some (ro_, ho_)) : zq_wm sc d 194 [.ref a0, .int a1] h (some (.int ro_), ho_) := by
  unfold zm_worthAt at hf
  obtain ⟨d, rfl⟩ : ∃ d', d = d' + 1 := ⟨d - 1, by omega⟩
  have hd : 0 ≤ d := by omega
  show zq_wp sc (d + 1) 194 0 [some (.ref a0), some (.int a1), none, none, none] [] h _
  refine zq_wg 4 (pc' := 4) (lv' := [some (.ref a0), some (.int a1), some (.int (0 : Int32)), some (.int a1), none]) (st' := []) (h' := h) rfl ?_
  refine zq_fg [some (.ref a0), none, some (.int (0 : Int32)), some (.int a1), none] (zq_lvle_s (zq_lvle_n (zq_lvle_s (zq_lvle_s (zq_lvle_s zq_lvle_nil))))) ?_
  refine zm_worthAt_l4_ok sc d hd zo_F a0 (0 : Int32) a1 h _ _ _ ?_ hf
  · intro x75 h76 hf
    refine zq_wg 1 (pc' := 141) (lv' := [some (.ref x75), none, none, none, none]) (st' := [.ref x75]) (h' := h76) rfl ?_
    obtain ⟨v77, e78, hf⟩ := zo_b_s hf
    refine zr_gR rfl rfl (by decide) rfl e78 ?_
    refine zq_wg 1 (pc' := 145) (lv' := [some (.ref x75), none, none, none, none]) (st' := [.int (0 : Int32), .ref v77]) (h' := h76) rfl ?_
    obtain ⟨v79, e80, hf⟩ := zo_b_s hf
    refine zr_iald rfl e80 ?_
    exact zr_ri rfl rfl rfl hf
set_option maxRecDepth 4000 in
def zm_skillOf (sc : zX) (a0 : Nat) (a1 : Int32) (a2 : Int32) (h : zH) : Option (Int32 × zH) := zo_v h a0 10 (zm_laysFacts sc a0 a1 a2 h) (fun w2 h1 => zo_v h1 a0 10 (zm_postOf sc a0 a2 (0 : Int32) h1) (fun v6 h5 => zo_l (fun (x9 : Nat) (x10 : Int32) (h11 : zH) => zo_b (zo_gR h11 10 x9 10) (fun v12 => zo_b (zq_rdI sc h11 v12 (7 : Int32)) (fun v14 => zo_l (fun (x16 : Int32) (h17 : zH) => if 0 ≤ x16 then (if x16 ≤ (99 : Int32) then (some (x16, h17)) else (some ((99 : Int32), h17))) else (some ((0 : Int32), h17))) (fun j57_17 => if 0 ≤ v14 then (zo_b (zo_gR h11 10 x9 10) (fun v21 => zo_b (zq_rdI sc h11 v21 (7 : Int32)) (fun v23 => zo_v h11 x9 10 (zm_worthAt sc x9 v23 h11) (fun v26 h25 => j57_17 v26 h25)))) else (j57_17 x10 h11))))) (fun j31_11 => if v6 = (1 : Int32) then (zo_b (zo_gR h5 10 a0 23) (fun v30 => zo_b (zq_rdI sc h5 v30 (1 : Int32)) (fun v32 => j31_11 a0 v32 h5))) else (zo_b (zo_gR h5 10 a0 23) (fun v34 => zo_b (zq_rdI sc h5 v34 (0 : Int32)) (fun v36 => j31_11 a0 v36 h5))))))
set_option maxRecDepth 4000 in
theorem zm_skillOf_ok (sc : zX) (d : Nat) (hd : 2 ≤ d) {a0 : Nat} {a1 : Int32} {a2 : Int32} {h : zH} {ro_ : Int32} {ho_ : zH} (hf : zm_skillOf sc a0 a1 a2 h = some (ro_, ho_)) : zq_wm sc d 191 [.ref a0, .int a1, .int a2] h (some (.int ro_), ho_) := by
  unfold zm_skillOf at hf
  obtain ⟨d, rfl⟩ : ∃ d', d = d' + 1 := ⟨d - 1, by omega⟩
  have hd : 1 ≤ d := by omega
  show zq_wp sc (d + 1) 191 0 [some (.ref a0), some (.int a1), some (.int a2), none] [] h _
  refine zq_wg 3 (pc' := 3) (lv' := [some (.ref a0), some (.int a1), some (.int a2), none]) (st' := [.int a2, .int a1, .ref a0]) (h' := h) rfl ?_
  obtain ⟨e4, w2, h1, e3, hf⟩ := zo_v_s hf
  refine zr_cv zq_m192 [.int a1, .int a2] [] rfl rfl rfl rfl rfl (Nat.le_of_ble_eq_true rfl) (Nat.le_of_ble_eq_true rfl) e4 (zm_laysFacts_ok sc d (by omega) e3) ?_
  refine zq_wg 0 (pc' := 6) (lv' := [some (.ref a0), some (.int a1), some (.int a2), none]) (st' := []) (h' := h1) rfl ?_
  refine zq_wg 3 (pc' := 9) (lv' := [some (.ref a0), some (.int a1), some (.int a2), none]) (st' := [.int (0 : Int32), .int a2, .ref a0]) (h' := h1) rfl ?_
  obtain ⟨e8, v6, h5, e7, hf⟩ := zo_v_s hf
  refine zr_cv zq_m193 [.int a2, .int (0 : Int32)] [] rfl rfl rfl rfl rfl (Nat.le_of_ble_eq_true rfl) (Nat.le_of_ble_eq_true rfl) e8 (zm_postOf_ok sc d (by omega) e7) ?_
  refine zq_wg 0 (pc' := 12) (lv' := [some (.ref a0), some (.int a1), some (.int a2), none]) (st' := [.int v6]) (h' := h5) rfl ?_
  refine zq_wg 1 (pc' := 13) (lv' := [some (.ref a0), some (.int a1), some (.int a2), none]) (st' := [.int (1 : Int32), .int v6]) (h' := h5) rfl ?_
  obtain ⟨j31_11, hjj31_11, hf⟩ := zo_lj hf
  have kj31_11 : ∀ (x9 : Nat) (x10 : Int32) (h11 : zH), j31_11 x9 x10 h11 = some (ro_, ho_) → zq_wp sc (d + 1) 191 31 [some (.ref x9), none, none, none] [.int x10] h11 (some (.int ro_), ho_) := by
    intro x9 x10 h11 hf
    rw [hjj31_11] at hf
    refine zq_wg 2 (pc' := 33) (lv' := [some (.ref x9), none, none, some (.int x10)]) (st' := [.ref x9]) (h' := h11) rfl ?_
    obtain ⟨v12, e13, hf⟩ := zo_b_s hf
    refine zr_gR rfl rfl (by decide) rfl e13 ?_
    refine zq_wg 1 (pc' := 38) (lv' := [some (.ref x9), none, none, some (.int x10)]) (st' := [.int (7 : Int32), .ref v12]) (h' := h11) rfl ?_
    obtain ⟨v14, e15, hf⟩ := zo_b_s hf
    refine zr_iald rfl e15 ?_
    obtain ⟨j57_17, hjj57_17, hf⟩ := zo_lj hf
    have kj57_17 : ∀ (x16 : Int32) (h17 : zH), j57_17 x16 h17 = some (ro_, ho_) → zq_wp sc (d + 1) 191 57 [none, none, none, none] [.int x16] h17 (some (.int ro_), ho_) := by
      intro x16 h17 hf
      rw [hjj57_17] at hf
      refine zq_wg 2 (pc' := 59) (lv' := [none, none, none, some (.int x16)]) (st' := [.int x16]) (h' := h17) rfl ?_
      refine zr_if (0 ≤ x16) 66 62 (st' := []) rfl rfl (fun b18 => ?_) (fun b18 => ?_)
      · have hf := zo_t hf b18
        refine zq_wg 2 (pc' := 69) (lv' := [none, none, none, some (.int x16)]) (st' := [.int (99 : Int32), .int x16]) (h' := h17) rfl ?_
        refine zr_if (x16 ≤ (99 : Int32)) 77 72 (st' := []) rfl rfl (fun b19 => ?_) (fun b19 => ?_)
        · have hf := zo_t hf b19
          refine zq_wg 1 (pc' := 78) (lv' := [none, none, none, some (.int x16)]) (st' := [.int x16]) (h' := h17) rfl ?_
          exact zr_ri rfl rfl rfl hf
        · have hf := zo_f hf b19
          refine zq_wg 2 (pc' := 78) (lv' := [none, none, none, some (.int x16)]) (st' := [.int (99 : Int32)]) (h' := h17) rfl ?_
          exact zr_ri rfl rfl rfl hf
      · have hf := zo_f hf b18
        refine zq_wg 2 (pc' := 78) (lv' := [none, none, none, some (.int x16)]) (st' := [.int (0 : Int32)]) (h' := h17) rfl ?_
        exact zr_ri rfl rfl rfl hf
    refine zr_if (0 ≤ v14) 46 42 (st' := []) rfl rfl (fun b20 => ?_) (fun b20 => ?_)
    · have hf := zo_t hf b20
      refine zq_wg 2 (pc' := 48) (lv' := [some (.ref x9), none, none, some (.int x10)]) (st' := [.ref x9, .ref x9]) (h' := h11) rfl ?_
      obtain ⟨v21, e22, hf⟩ := zo_b_s hf
      refine zr_gR rfl rfl (by decide) rfl e22 ?_
      refine zq_wg 1 (pc' := 53) (lv' := [some (.ref x9), none, none, some (.int x10)]) (st' := [.int (7 : Int32), .ref v21, .ref x9]) (h' := h11) rfl ?_
      obtain ⟨v23, e24, hf⟩ := zo_b_s hf
      refine zr_iald rfl e24 ?_
      obtain ⟨e28, v26, h25, e27, hf⟩ := zo_v_s hf
      refine zr_cv zq_m194 [.int v23] [] rfl rfl rfl rfl rfl (Nat.le_of_ble_eq_true rfl) (Nat.le_of_ble_eq_true rfl) e28 (zm_worthAt_ok sc d (by omega) e27) ?_
      refine zq_wg 0 (pc' := 57) (lv' := [some (.ref x9), none, none, some (.int x10)]) (st' := [.int v26]) (h' := h25) rfl ?_
      refine zq_fg [none, none, none, none] (zq_lvle_n (zq_lvle_s (zq_lvle_s (zq_lvle_n zq_lvle_nil)))) ?_
      exact kj57_17 v26 h25 hf
    · have hf := zo_f hf b20
      refine zq_wg 2 (pc' := 57) (lv' := [some (.ref x9), none, none, some (.int x10)]) (st' := [.int x10]) (h' := h11) rfl ?_
      refine zq_fg [none, none, none, none] (zq_lvle_n (zq_lvle_s (zq_lvle_s (zq_lvle_n zq_lvle_nil)))) ?_
      exact kj57_17 x10 h11 hf
  refine zr_if (v6 = (1 : Int32)) 16 25 (st' := []) rfl rfl (fun b29 => ?_) (fun b29 => ?_)
  · have hf := zo_t hf b29
    refine zq_wg 1 (pc' := 17) (lv' := [some (.ref a0), some (.int a1), some (.int a2), none]) (st' := [.ref a0]) (h' := h5) rfl ?_
    obtain ⟨v30, e31, hf⟩ := zo_b_s hf
    refine zr_gR rfl rfl (by decide) rfl e31 ?_
    refine zq_wg 1 (pc' := 21) (lv' := [some (.ref a0), some (.int a1), some (.int a2), none]) (st' := [.int (1 : Int32), .ref v30]) (h' := h5) rfl ?_
    obtain ⟨v32, e33, hf⟩ := zo_b_s hf
    refine zr_iald rfl e33 ?_
    refine zq_wg 1 (pc' := 31) (lv' := [some (.ref a0), some (.int a1), some (.int a2), none]) (st' := [.int v32]) (h' := h5) rfl ?_
    refine zq_fg [some (.ref a0), none, none, none] (zq_lvle_s (zq_lvle_n (zq_lvle_n (zq_lvle_s zq_lvle_nil)))) ?_
    exact kj31_11 a0 v32 h5 hf
  · have hf := zo_f hf b29
    refine zq_wg 1 (pc' := 26) (lv' := [some (.ref a0), some (.int a1), some (.int a2), none]) (st' := [.ref a0]) (h' := h5) rfl ?_
    obtain ⟨v34, e35, hf⟩ := zo_b_s hf
    refine zr_gR rfl rfl (by decide) rfl e35 ?_
    refine zq_wg 1 (pc' := 30) (lv' := [some (.ref a0), some (.int a1), some (.int a2), none]) (st' := [.int (0 : Int32), .ref v34]) (h' := h5) rfl ?_
    obtain ⟨v36, e37, hf⟩ := zo_b_s hf
    refine zr_iald rfl e37 ?_
    refine zq_fg [some (.ref a0), none, none, none] (zq_lvle_s (zq_lvle_n (zq_lvle_n (zq_lvle_s zq_lvle_nil)))) ?_
    exact kj31_11 a0 v36 h5 hf
set_option maxRecDepth 4000 in
def zm_laysSkills_l12 (sc : zX) : Nat → Nat → Int32 → Int32 → zH → (Nat → Int32 → zH → Option (Unit × zH)) → Option (Unit × zH)
  | 0, _, _, _, _, _ => none
  | n + 1, y9, y10, y11, h12, k43 => zo_v h12 y9 10 (zm_posts sc y9 h12) (fun v14 h13 => if v14 ≤ y11 then (k43 y9 y10 h13) else (zo_b (zo_gR h13 10 y9 28) (fun v18 => zo_v h13 y9 10 (zm_skillOf sc y9 y10 y11 h13) (fun v21 h20 => zo_b (zq_wrX 1 h20 v18 (((6 : Int32) * y10) + y11) v21) (fun h24 => zm_laysSkills_l12 sc n y9 y10 (y11 + (1 : Int32)) h24 k43)))))
set_option maxRecDepth 4000 in
def zm_laysSkills_l2 (sc : zX) : Nat → Nat → Int32 → zH → Option (Unit × zH)
  | 0, _, _, _ => none
  | n + 1, y1, y2, h3 => zo_v h3 y1 10 (zm_men sc y1 h3) (fun v5 h4 => if v5 ≤ y2 then (some ((), h4)) else (zm_laysSkills_l12 sc zo_F y1 y2 (0 : Int32) h4 (fun (x26 : Nat) (x27 : Int32) (h28 : zH) => zm_laysSkills_l2 sc n x26 (x27 + (1 : Int32)) h28 )))
set_option maxRecDepth 4000 in
def zm_laysSkills (sc : zX) (a0 : Nat) (h : zH) : Option (Unit × zH) := zm_laysSkills_l2 sc zo_F a0 (0 : Int32) h 
set_option maxRecDepth 4000 in
theorem zm_laysSkills_l12_ok (sc : zX) (d : Nat) (hd : 2 ≤ d) : ∀ (n : Nat) (y9 : Nat) (y10 : Int32) (y11 : Int32) (h12 : zH) (k43 : Nat → Int32 → zH → Option (Unit × zH)) (ro_ : Unit) (ho_ : zH), (∀ (z0 : Nat) (z1 : Int32) (hz : zH), k43 z0 z1 hz = some (ro_, ho_) → zq_wp sc (d + 1) 190 43 [some (.ref z0), some (.int z1), none] [] hz (none, ho_)) → zm_laysSkills_l12 sc n y9 y10 y11 h12 k43 = some (ro_, ho_) → zq_wp sc (d + 1) 190 12 [some (.ref y9), some (.int y10), some (.int y11)] [] h12 (none, ho_) := by
  intro n
  induction n with
  | zero => intro y9 y10 y11 h12 k43 ro_ ho_ hk43 hf; cases hf
  | succ n ih =>
    intro y9 y10 y11 h12 k43 ro_ ho_ hk43 hf
    refine zq_wg 2 (pc' := 14) (lv' := [some (.ref y9), some (.int y10), some (.int y11)]) (st' := [.ref y9, .int y11]) (h' := h12) rfl ?_
    obtain ⟨e16, v14, h13, e15, hf⟩ := zo_v_s hf
    refine zr_cv zq_m151 [] [.int y11] rfl rfl rfl rfl rfl (Nat.le_of_ble_eq_true rfl) (Nat.le_of_ble_eq_true rfl) e16 (zm_posts_ok sc d (by omega) e15) ?_
    refine zq_wg 0 (pc' := 17) (lv' := [some (.ref y9), some (.int y10), some (.int y11)]) (st' := [.int v14, .int y11]) (h' := h13) rfl ?_
    refine zr_if (v14 ≤ y11) 43 20 (st' := []) rfl rfl (fun b17 => ?_) (fun b17 => ?_)
    · have hf := zo_t hf b17
      refine zq_fg [some (.ref y9), some (.int y10), none] (zq_lvle_s (zq_lvle_s (zq_lvle_n zq_lvle_nil))) ?_
      exact hk43 y9 y10 h13 hf
    · have hf := zo_f hf b17
      refine zq_wg 1 (pc' := 21) (lv' := [some (.ref y9), some (.int y10), some (.int y11)]) (st' := [.ref y9]) (h' := h13) rfl ?_
      obtain ⟨v18, e19, hf⟩ := zo_b_s hf
      refine zr_gR rfl rfl (by decide) rfl e19 ?_
      refine zq_wg 8 (pc' := 33) (lv' := [some (.ref y9), some (.int y10), some (.int y11)]) (st' := [.int y11, .int y10, .ref y9, .int (((6 : Int32) * y10) + y11), .ref v18]) (h' := h13) rfl ?_
      obtain ⟨e23, v21, h20, e22, hf⟩ := zo_v_s hf
      refine zr_cv zq_m191 [.int y10, .int y11] [.int (((6 : Int32) * y10) + y11), .ref v18] rfl rfl rfl rfl rfl (Nat.le_of_ble_eq_true rfl) (Nat.le_of_ble_eq_true rfl) e23 (zm_skillOf_ok sc d (by omega) e22) ?_
      refine zq_wg 0 (pc' := 36) (lv' := [some (.ref y9), some (.int y10), some (.int y11)]) (st' := [.int v21, .int (((6 : Int32) * y10) + y11), .ref v18]) (h' := h20) rfl ?_
      obtain ⟨h24, e25, hf⟩ := zo_b_s hf
      refine zr_iast rfl e25 ?_
      refine zq_wg 2 (pc' := 12) (lv' := [some (.ref y9), some (.int y10), some (.int (y11 + (1 : Int32)))]) (st' := []) (h' := h24) rfl ?_
      exact ih y9 y10 (y11 + (1 : Int32)) h24 _ _ _ hk43 hf
set_option maxRecDepth 4000 in
theorem zm_laysSkills_l2_ok (sc : zX) (d : Nat) (hd : 2 ≤ d) : ∀ (n : Nat) (y1 : Nat) (y2 : Int32) (h3 : zH) (ro_ : Unit) (ho_ : zH),  zm_laysSkills_l2 sc n y1 y2 h3  = some (ro_, ho_) → zq_wp sc (d + 1) 190 2 [some (.ref y1), some (.int y2), none] [] h3 (none, ho_) := by
  intro n
  induction n with
  | zero => intro y1 y2 h3 ro_ ho_ hf; cases hf
  | succ n ih =>
    intro y1 y2 h3 ro_ ho_ hf
    refine zq_wg 2 (pc' := 4) (lv' := [some (.ref y1), some (.int y2), none]) (st' := [.ref y1, .int y2]) (h' := h3) rfl ?_
    obtain ⟨e7, v5, h4, e6, hf⟩ := zo_v_s hf
    refine zr_cv zq_m152 [] [.int y2] rfl rfl rfl rfl rfl (Nat.le_of_ble_eq_true rfl) (Nat.le_of_ble_eq_true rfl) e7 (zm_men_ok sc d (by omega) e6) ?_
    refine zq_wg 0 (pc' := 7) (lv' := [some (.ref y1), some (.int y2), none]) (st' := [.int v5, .int y2]) (h' := h4) rfl ?_
    refine zr_if (v5 ≤ y2) 49 10 (st' := []) rfl rfl (fun b8 => ?_) (fun b8 => ?_)
    · have hf := zo_t hf b8
      exact zr_rv rfl rfl hf
    · have hf := zo_f hf b8
      refine zq_wg 2 (pc' := 12) (lv' := [some (.ref y1), some (.int y2), some (.int (0 : Int32))]) (st' := []) (h' := h4) rfl ?_
      refine zm_laysSkills_l12_ok sc d hd zo_F y1 y2 (0 : Int32) h4 _ _ _ ?_ hf
      · intro x26 x27 h28 hf
        refine zq_wg 2 (pc' := 2) (lv' := [some (.ref x26), some (.int (x27 + (1 : Int32))), none]) (st' := []) (h' := h28) rfl ?_
        exact ih x26 (x27 + (1 : Int32)) h28 _ _ hf
set_option maxRecDepth 4000 in
theorem zm_laysSkills_ok (sc : zX) (d : Nat) (hd : 3 ≤ d) {a0 : Nat} {h : zH} {ro_ : Unit} {ho_ : zH} (hf : zm_laysSkills sc a0 h = some (ro_, ho_)) : zq_wm sc d 190 [.ref a0] h (none, ho_) := by
  unfold zm_laysSkills at hf
  obtain ⟨d, rfl⟩ : ∃ d', d = d' + 1 := ⟨d - 1, by omega⟩
  have hd : 2 ≤ d := by omega
  show zq_wp sc (d + 1) 190 0 [some (.ref a0), none, none] [] h _
  refine zq_wg 2 (pc' := 2) (lv' := [some (.ref a0), some (.int (0 : Int32)), none]) (st' := []) (h' := h) rfl ?_
  refine zm_laysSkills_l2_ok sc d hd zo_F a0 (0 : Int32) h _ _ hf
set_option maxRecDepth 4000 in
def zm_laysHeld_l6 (sc : zX) : Nat → Nat → Int32 → Int32 → zH → Option (Unit × zH)
  | 0, _, _, _, _ => none
  | n + 1, y5, y6, y7, h8 => if (6 : Int32) ≤ y7 then (some ((), h8)) else (zo_b (zo_gR h8 10 y5 29) (fun v10 => zo_v h8 y5 10 (zm_posts sc y5 h8) (fun v13 h12 => zo_l (fun (x16 : Nat) (x17 : Int32) (x18 : Int32) (x19 : Nat) (x20 : Int32) (x21 : Int32) (h22 : zH) => zo_b (zq_wrX 1 h22 x19 x20 x21) (fun h23 => zm_laysHeld_l6 sc n x16 x17 (x18 + (1 : Int32)) h23 )) (fun j39_22 => if v13 ≤ y7 then (j39_22 y5 y6 y7 v10 y7 (-1 : Int32) h12) else (zo_b (zo_gR h12 10 y5 25) (fun v26 => zo_b (zq_rdI sc h12 v26 ((y6 + (4 : Int32)) + y7)) (fun v28 => j39_22 y5 y6 y7 v10 y7 v28 h12)))))))
set_option maxRecDepth 4000 in
def zm_laysHeld (sc : zX) (a0 : Nat) (a1 : Int32) (h : zH) : Option (Unit × zH) := zo_v h a0 10 (zm_laysSkills sc a0 h) (fun w2 h1 => zm_laysHeld_l6 sc zo_F a0 a1 (0 : Int32) h1 )
set_option maxRecDepth 4000 in
theorem zm_laysHeld_l6_ok (sc : zX) (d : Nat) (hd : 3 ≤ d) : ∀ (n : Nat) (y5 : Nat) (y6 : Int32) (y7 : Int32) (h8 : zH) (ro_ : Unit) (ho_ : zH),  zm_laysHeld_l6 sc n y5 y6 y7 h8  = some (ro_, ho_) → zq_wp sc (d + 1) 189 6 [some (.ref y5), some (.int y6), some (.int y7)] [] h8 (none, ho_) := by
  intro n
  induction n with
  | zero => intro y5 y6 y7 h8 ro_ ho_ hf; cases hf
  | succ n ih =>
    intro y5 y6 y7 h8 ro_ ho_ hf
    refine zq_wg 2 (pc' := 9) (lv' := [some (.ref y5), some (.int y6), some (.int y7)]) (st' := [.int (6 : Int32), .int y7]) (h' := h8) rfl ?_
    refine zr_if ((6 : Int32) ≤ y7) 46 12 (st' := []) rfl rfl (fun b9 => ?_) (fun b9 => ?_)
    · have hf := zo_t hf b9
      exact zr_rv rfl rfl hf
    · have hf := zo_f hf b9
      refine zq_wg 1 (pc' := 13) (lv' := [some (.ref y5), some (.int y6), some (.int y7)]) (st' := [.ref y5]) (h' := h8) rfl ?_
      obtain ⟨v10, e11, hf⟩ := zo_b_s hf
      refine zr_gR rfl rfl (by decide) rfl e11 ?_
      refine zq_wg 3 (pc' := 19) (lv' := [some (.ref y5), some (.int y6), some (.int y7)]) (st' := [.ref y5, .int y7, .int y7, .ref v10]) (h' := h8) rfl ?_
      obtain ⟨e15, v13, h12, e14, hf⟩ := zo_v_s hf
      refine zr_cv zq_m151 [] [.int y7, .int y7, .ref v10] rfl rfl rfl rfl rfl (Nat.le_of_ble_eq_true rfl) (Nat.le_of_ble_eq_true rfl) e15 (zm_posts_ok sc d (by omega) e14) ?_
      refine zq_wg 0 (pc' := 22) (lv' := [some (.ref y5), some (.int y6), some (.int y7)]) (st' := [.int v13, .int y7, .int y7, .ref v10]) (h' := h12) rfl ?_
      obtain ⟨j39_22, hjj39_22, hf⟩ := zo_lj hf
      have kj39_22 : ∀ (x16 : Nat) (x17 : Int32) (x18 : Int32) (x19 : Nat) (x20 : Int32) (x21 : Int32) (h22 : zH), j39_22 x16 x17 x18 x19 x20 x21 h22 = some (ro_, ho_) → zq_wp sc (d + 1) 189 39 [some (.ref x16), some (.int x17), some (.int x18)] [.int x21, .int x20, .ref x19] h22 (none, ho_) := by
        intro x16 x17 x18 x19 x20 x21 h22 hf
        rw [hjj39_22] at hf
        obtain ⟨h23, e24, hf⟩ := zo_b_s hf
        refine zr_iast rfl e24 ?_
        refine zq_wg 2 (pc' := 6) (lv' := [some (.ref x16), some (.int x17), some (.int (x18 + (1 : Int32)))]) (st' := []) (h' := h23) rfl ?_
        exact ih x16 x17 (x18 + (1 : Int32)) h23 _ _ hf
      refine zr_if (v13 ≤ y7) 38 25 (st' := [.int y7, .ref v10]) rfl rfl (fun b25 => ?_) (fun b25 => ?_)
      · have hf := zo_t hf b25
        refine zq_wg 1 (pc' := 39) (lv' := [some (.ref y5), some (.int y6), some (.int y7)]) (st' := [.int (-1 : Int32), .int y7, .ref v10]) (h' := h12) rfl ?_
        exact kj39_22 y5 y6 y7 v10 y7 (-1 : Int32) h12 hf
      · have hf := zo_f hf b25
        refine zq_wg 1 (pc' := 26) (lv' := [some (.ref y5), some (.int y6), some (.int y7)]) (st' := [.ref y5, .int y7, .ref v10]) (h' := h12) rfl ?_
        obtain ⟨v26, e27, hf⟩ := zo_b_s hf
        refine zr_gR rfl rfl (by decide) rfl e27 ?_
        refine zq_wg 5 (pc' := 34) (lv' := [some (.ref y5), some (.int y6), some (.int y7)]) (st' := [.int ((y6 + (4 : Int32)) + y7), .ref v26, .int y7, .ref v10]) (h' := h12) rfl ?_
        obtain ⟨v28, e29, hf⟩ := zo_b_s hf
        refine zr_iald rfl e29 ?_
        refine zq_wg 1 (pc' := 39) (lv' := [some (.ref y5), some (.int y6), some (.int y7)]) (st' := [.int v28, .int y7, .ref v10]) (h' := h12) rfl ?_
        exact kj39_22 y5 y6 y7 v10 y7 v28 h12 hf
set_option maxRecDepth 4000 in
theorem zm_laysHeld_ok (sc : zX) (d : Nat) (hd : 4 ≤ d) {a0 : Nat} {a1 : Int32} {h : zH} {ro_ : Unit} {ho_ : zH} (hf : zm_laysHeld sc a0 a1 h = some (ro_, ho_)) : zq_wm sc d 189 [.ref a0, .int a1] h (none, ho_) := by
  unfold zm_laysHeld at hf
  obtain ⟨d, rfl⟩ : ∃ d', d = d' + 1 := ⟨d - 1, by omega⟩
  have hd : 3 ≤ d := by omega
  show zq_wp sc (d + 1) 189 0 [some (.ref a0), some (.int a1), none] [] h _
  refine zq_wg 1 (pc' := 1) (lv' := [some (.ref a0), some (.int a1), none]) (st' := [.ref a0]) (h' := h) rfl ?_
  obtain ⟨e4, w2, h1, e3, hf⟩ := zo_v_s hf
  refine zr_cv zq_m190 [] [] rfl rfl rfl rfl rfl (Nat.le_of_ble_eq_true rfl) (Nat.le_of_ble_eq_true rfl) e4 (zm_laysSkills_ok sc d (by omega) e3) ?_
  refine zq_wg 0 (pc' := 4) (lv' := [some (.ref a0), some (.int a1), none]) (st' := []) (h' := h1) rfl ?_
  refine zq_wg 2 (pc' := 6) (lv' := [some (.ref a0), some (.int a1), some (.int (0 : Int32))]) (st' := []) (h' := h1) rfl ?_
  refine zm_laysHeld_l6_ok sc d hd zo_F a0 a1 (0 : Int32) h1 _ _ hf
set_option maxRecDepth 4000 in
def zm_doesObey_l17 (sc : zX) : Nat → Nat → Int32 → Int32 → zH → Option (Int32 × zH)
  | 0, _, _, _, _ => none
  | n + 1, y6, y7, y8, h9 => if y7 = 0 then (zo_rb y7 h9) else (zo_v h9 y6 10 (zm_postOf sc y6 y8 (2 : Int32) h9) (fun v12 h11 => if v12 < 0 then (zo_rb y7 h11) else (zo_v h11 y6 10 (zm_postOf sc y6 y8 (2 : Int32) h11) (fun v17 h16 => zo_b (zo_gR h16 10 y6 29) (fun v20 => zo_b (zq_rdI sc h16 v20 v17) (fun v22 => zo_l (fun (x24 : Nat) (x25 : Int32) (x26 : Int32) (h27 : zH) => zm_doesObey_l17 sc n x24 x26 x25 h27 ) (fun j77_27 => zo_l (fun (x28 : Nat) (x29 : Int32) (h30 : zH) => j77_27 x28 x29 (0 : Int32) h30) (fun j76_30 => if v22 < 0 then (j76_30 y6 v17 h16) else (zo_b (zo_gR h16 10 y6 28) (fun v32 => zo_b (zo_gR h16 10 y6 29) (fun v34 => zo_b (zq_rdI sc h16 v34 v17) (fun v36 => zo_b (zq_rdI sc h16 v32 (((6 : Int32) * v36) + v17)) (fun v38 => zo_b (zo_gR h16 10 y6 10) (fun v40 => zo_b (zq_rdI sc h16 v40 (6 : Int32)) (fun v42 => if v38 < v42 then (j76_30 y6 v17 h16) else (j77_27 y6 v17 (1 : Int32) h16))))))))))))))))
set_option maxRecDepth 4000 in
def zm_doesObey (sc : zX) (a0 : Nat) (a1 : Int32) (h : zH) : Option (Int32 × zH) := zo_b (zo_gR h 10 a0 29) (fun v1 => zo_b (zq_rdI sc h v1 a1) (fun v3 => zo_l (if v3 < 0 then (0 : Int32) else (1 : Int32)) (fun (x5 : Int32) => zm_doesObey_l17 sc zo_F a0 x5 a1 h )))
set_option maxRecDepth 4000 in
theorem zm_doesObey_l17_ok (sc : zX) (d : Nat) (hd : 0 ≤ d) : ∀ (n : Nat) (y6 : Nat) (y7 : Int32) (y8 : Int32) (h9 : zH) (ro_ : Int32) (ho_ : zH),  zm_doesObey_l17 sc n y6 y7 y8 h9  = some (ro_, ho_) → zq_wp sc (d + 1) 196 17 [some (.ref y6), none, some (.int y7), some (.int y8)] [] h9 (some (.int ro_), ho_) := by
  intro n
  induction n with
  | zero => intro y6 y7 y8 h9 ro_ ho_ hf; cases hf
  | succ n ih =>
    intro y6 y7 y8 h9 ro_ ho_ hf
    refine zq_wg 1 (pc' := 18) (lv' := [some (.ref y6), none, some (.int y7), some (.int y8)]) (st' := [.int y7]) (h' := h9) rfl ?_
    refine zr_if (y7 = 0) 81 21 (st' := []) rfl rfl (fun b10 => ?_) (fun b10 => ?_)
    · have hf := zo_t hf b10
      refine zq_wg 1 (pc' := 82) (lv' := [some (.ref y6), none, some (.int y7), some (.int y8)]) (st' := [.int y7]) (h' := h9) rfl ?_
      exact zr_rb rfl rfl hf
    · have hf := zo_f hf b10
      refine zq_wg 3 (pc' := 24) (lv' := [some (.ref y6), none, some (.int y7), some (.int y8)]) (st' := [.int (2 : Int32), .int y8, .ref y6]) (h' := h9) rfl ?_
      obtain ⟨e14, v12, h11, e13, hf⟩ := zo_v_s hf
      refine zr_cv zq_m193 [.int y8, .int (2 : Int32)] [] rfl rfl rfl rfl rfl (Nat.le_of_ble_eq_true rfl) (Nat.le_of_ble_eq_true rfl) e14 (zm_postOf_ok sc d (by omega) e13) ?_
      refine zq_wg 0 (pc' := 27) (lv' := [some (.ref y6), none, some (.int y7), some (.int y8)]) (st' := [.int v12]) (h' := h11) rfl ?_
      refine zr_if (v12 < 0) 81 30 (st' := []) rfl rfl (fun b15 => ?_) (fun b15 => ?_)
      · have hf := zo_t hf b15
        refine zq_wg 1 (pc' := 82) (lv' := [some (.ref y6), none, some (.int y7), some (.int y8)]) (st' := [.int y7]) (h' := h11) rfl ?_
        exact zr_rb rfl rfl hf
      · have hf := zo_f hf b15
        refine zq_wg 3 (pc' := 33) (lv' := [some (.ref y6), none, some (.int y7), some (.int y8)]) (st' := [.int (2 : Int32), .int y8, .ref y6]) (h' := h11) rfl ?_
        obtain ⟨e19, v17, h16, e18, hf⟩ := zo_v_s hf
        refine zr_cv zq_m193 [.int y8, .int (2 : Int32)] [] rfl rfl rfl rfl rfl (Nat.le_of_ble_eq_true rfl) (Nat.le_of_ble_eq_true rfl) e19 (zm_postOf_ok sc d (by omega) e18) ?_
        refine zq_wg 0 (pc' := 36) (lv' := [some (.ref y6), none, some (.int y7), some (.int y8)]) (st' := [.int v17]) (h' := h16) rfl ?_
        refine zq_wg 2 (pc' := 38) (lv' := [some (.ref y6), none, some (.int y7), some (.int v17)]) (st' := [.ref y6]) (h' := h16) rfl ?_
        obtain ⟨v20, e21, hf⟩ := zo_b_s hf
        refine zr_gR rfl rfl (by decide) rfl e21 ?_
        refine zq_wg 1 (pc' := 42) (lv' := [some (.ref y6), none, some (.int y7), some (.int v17)]) (st' := [.int v17, .ref v20]) (h' := h16) rfl ?_
        obtain ⟨v22, e23, hf⟩ := zo_b_s hf
        refine zr_iald rfl e23 ?_
        obtain ⟨j77_27, hjj77_27, hf⟩ := zo_lj hf
        have kj77_27 : ∀ (x24 : Nat) (x25 : Int32) (x26 : Int32) (h27 : zH), j77_27 x24 x25 x26 h27 = some (ro_, ho_) → zq_wp sc (d + 1) 196 77 [some (.ref x24), none, none, some (.int x25)] [.int x26] h27 (some (.int ro_), ho_) := by
          intro x24 x25 x26 h27 hf
          rw [hjj77_27] at hf
          refine zq_wg 2 (pc' := 17) (lv' := [some (.ref x24), none, some (.int x26), some (.int x25)]) (st' := []) (h' := h27) rfl ?_
          exact ih x24 x26 x25 h27 _ _ hf
        obtain ⟨j76_30, hjj76_30, hf⟩ := zo_lj hf
        have kj76_30 : ∀ (x28 : Nat) (x29 : Int32) (h30 : zH), j76_30 x28 x29 h30 = some (ro_, ho_) → zq_wp sc (d + 1) 196 76 [some (.ref x28), none, none, some (.int x29)] [] h30 (some (.int ro_), ho_) := by
          intro x28 x29 h30 hf
          rw [hjj76_30] at hf
          refine zq_wg 1 (pc' := 77) (lv' := [some (.ref x28), none, none, some (.int x29)]) (st' := [.int (0 : Int32)]) (h' := h30) rfl ?_
          exact kj77_27 x28 x29 (0 : Int32) h30 hf
        refine zr_if (v22 < 0) 76 46 (st' := []) rfl rfl (fun b31 => ?_) (fun b31 => ?_)
        · have hf := zo_t hf b31
          refine zq_fg [some (.ref y6), none, none, some (.int v17)] (zq_lvle_s (zq_lvle_s (zq_lvle_n (zq_lvle_s zq_lvle_nil)))) ?_
          exact kj76_30 y6 v17 h16 hf
        · have hf := zo_f hf b31
          refine zq_wg 1 (pc' := 47) (lv' := [some (.ref y6), none, some (.int y7), some (.int v17)]) (st' := [.ref y6]) (h' := h16) rfl ?_
          obtain ⟨v32, e33, hf⟩ := zo_b_s hf
          refine zr_gR rfl rfl (by decide) rfl e33 ?_
          refine zq_wg 2 (pc' := 53) (lv' := [some (.ref y6), none, some (.int y7), some (.int v17)]) (st' := [.ref y6, .int (6 : Int32), .ref v32]) (h' := h16) rfl ?_
          obtain ⟨v34, e35, hf⟩ := zo_b_s hf
          refine zr_gR rfl rfl (by decide) rfl e35 ?_
          refine zq_wg 1 (pc' := 57) (lv' := [some (.ref y6), none, some (.int y7), some (.int v17)]) (st' := [.int v17, .ref v34, .int (6 : Int32), .ref v32]) (h' := h16) rfl ?_
          obtain ⟨v36, e37, hf⟩ := zo_b_s hf
          refine zr_iald rfl e37 ?_
          refine zq_wg 3 (pc' := 61) (lv' := [some (.ref y6), none, some (.int y7), some (.int v17)]) (st' := [.int (((6 : Int32) * v36) + v17), .ref v32]) (h' := h16) rfl ?_
          obtain ⟨v38, e39, hf⟩ := zo_b_s hf
          refine zr_iald rfl e39 ?_
          refine zq_wg 1 (pc' := 63) (lv' := [some (.ref y6), none, some (.int y7), some (.int v17)]) (st' := [.ref y6, .int v38]) (h' := h16) rfl ?_
          obtain ⟨v40, e41, hf⟩ := zo_b_s hf
          refine zr_gR rfl rfl (by decide) rfl e41 ?_
          refine zq_wg 1 (pc' := 68) (lv' := [some (.ref y6), none, some (.int y7), some (.int v17)]) (st' := [.int (6 : Int32), .ref v40, .int v38]) (h' := h16) rfl ?_
          obtain ⟨v42, e43, hf⟩ := zo_b_s hf
          refine zr_iald rfl e43 ?_
          refine zr_if (v38 < v42) 76 72 (st' := []) rfl rfl (fun b44 => ?_) (fun b44 => ?_)
          · have hf := zo_t hf b44
            refine zq_fg [some (.ref y6), none, none, some (.int v17)] (zq_lvle_s (zq_lvle_s (zq_lvle_n (zq_lvle_s zq_lvle_nil)))) ?_
            exact kj76_30 y6 v17 h16 hf
          · have hf := zo_f hf b44
            refine zq_wg 2 (pc' := 77) (lv' := [some (.ref y6), none, some (.int y7), some (.int v17)]) (st' := [.int (1 : Int32)]) (h' := h16) rfl ?_
            refine zq_fg [some (.ref y6), none, none, some (.int v17)] (zq_lvle_s (zq_lvle_s (zq_lvle_n (zq_lvle_s zq_lvle_nil)))) ?_
            exact kj77_27 y6 v17 (1 : Int32) h16 hf
set_option maxRecDepth 4000 in
theorem zm_doesObey_ok (sc : zX) (d : Nat) (hd : 1 ≤ d) {a0 : Nat} {a1 : Int32} {h : zH} {ro_ : Int32} {ho_ : zH} (hf : zm_doesObey sc a0 a1 h = some (ro_, ho_)) : zq_wm sc d 196 [.ref a0, .int a1] h (some (.int ro_), ho_) := by
  unfold zm_doesObey at hf
  obtain ⟨d, rfl⟩ : ∃ d', d = d' + 1 := ⟨d - 1, by omega⟩
  have hd : 0 ≤ d := by omega
  show zq_wp sc (d + 1) 196 0 [some (.ref a0), some (.int a1), none, none] [] h _
  refine zq_wg 1 (pc' := 1) (lv' := [some (.ref a0), some (.int a1), none, none]) (st' := [.ref a0]) (h' := h) rfl ?_
  obtain ⟨v1, e2, hf⟩ := zo_b_s hf
  refine zr_gR rfl rfl (by decide) rfl e2 ?_
  refine zq_wg 1 (pc' := 5) (lv' := [some (.ref a0), some (.int a1), none, none]) (st' := [.int a1, .ref v1]) (h' := h) rfl ?_
  obtain ⟨v3, e4, hf⟩ := zo_b_s hf
  refine zr_iald rfl e4 ?_
  obtain ⟨g14_5, hg14_5, hf⟩ := zo_lx hf
  have kg14_5 : ∀ (x5 : Int32), g14_5 x5 = some (ro_, ho_) → zq_wp sc (d + 1) 196 14 [some (.ref a0), some (.int a1), none, none] [.int x5] h (some (.int ro_), ho_) := by
    intro x5 hf
    rw [hg14_5] at hf
    refine zq_wg 3 (pc' := 17) (lv' := [some (.ref a0), some (.int a1), some (.int x5), some (.int a1)]) (st' := []) (h' := h) rfl ?_
    refine zq_fg [some (.ref a0), none, some (.int x5), some (.int a1)] (zq_lvle_s (zq_lvle_n (zq_lvle_s (zq_lvle_s zq_lvle_nil)))) ?_
    refine zm_doesObey_l17_ok sc d hd zo_F a0 x5 a1 h _ _ hf
  refine zr_if (v3 < 0) 13 9 (st' := []) rfl rfl (fun b45 => ?_) (fun b45 => ?_)
  · have hf := zo_lt hf b45
    refine zq_wg 1 (pc' := 14) (lv' := [some (.ref a0), some (.int a1), none, none]) (st' := [.int (0 : Int32)]) (h' := h) rfl ?_
    exact kg14_5 _ hf
  · have hf := zo_lf hf b45
    refine zq_wg 2 (pc' := 14) (lv' := [some (.ref a0), some (.int a1), none, none]) (st' := [.int (1 : Int32)]) (h' := h) rfl ?_
    exact kg14_5 _ hf
set_option maxRecDepth 4000 in
def zm_post (sc : zX) (a0 : Nat) (a1 : Int32) (a2 : Int32) (h : zH) : Option (Int32 × zH) := zo_b (zo_pI h 10 a0 0 (0 : Int32)) (fun h1 => zo_v h1 a0 10 (zm_isPost sc a0 a1 h1) (fun v4 h3 => if v4 = 0 then (some ((-1 : Int32), h3)) else (zo_c (zm_within sc a2 (0 : Int32) (4 : Int32) h3) (fun v9 h8 => if v9 = 0 then (some ((-1 : Int32), h8)) else (zo_v h8 a0 10 (zm_laysHeld sc a0 (0 : Int32) h8) (fun w13 h12 => if (3 : Int32) ≤ a2 then (if a2 = (3 : Int32) then (zo_b (zo_gR h12 10 a0 29) (fun v18 => zo_b (zq_rdI sc h12 v18 a1) (fun v20 => some (v20, h12)))) else (zo_v h12 a0 10 (zm_doesObey sc a0 a1 h12) (fun v23 h22 => if v23 = 0 then (some ((0 : Int32), h22)) else (some ((1 : Int32), h22))))) else (zo_v h12 a0 10 (zm_postOf sc a0 a1 a2 h12) (fun v28 h27 => some (v28, h27)))))))))
set_option maxRecDepth 4000 in
theorem zm_post_ok (sc : zX) (d : Nat) (hd : 5 ≤ d) {a0 : Nat} {a1 : Int32} {a2 : Int32} {h : zH} {ro_ : Int32} {ho_ : zH} (hf : zm_post sc a0 a1 a2 h = some (ro_, ho_)) : zq_wm sc d 187 [.ref a0, .int a1, .int a2] h (some (.int ro_), ho_) := by
  unfold zm_post at hf
  obtain ⟨d, rfl⟩ : ∃ d', d = d' + 1 := ⟨d - 1, by omega⟩
  have hd : 4 ≤ d := by omega
  show zq_wp sc (d + 1) 187 0 [some (.ref a0), some (.int a1), some (.int a2)] [] h _
  refine zq_wg 2 (pc' := 2) (lv' := [some (.ref a0), some (.int a1), some (.int a2)]) (st' := [.int (0 : Int32), .ref a0]) (h' := h) rfl ?_
  obtain ⟨h1, e2, hf⟩ := zo_b_s hf
  refine zr_pI rfl rfl (by decide) rfl rfl e2 ?_
  refine zq_wg 2 (pc' := 7) (lv' := [some (.ref a0), some (.int a1), some (.int a2)]) (st' := [.int a1, .ref a0]) (h' := h1) rfl ?_
  obtain ⟨e6, v4, h3, e5, hf⟩ := zo_v_s hf
  refine zr_cv zq_m188 [.int a1] [] rfl rfl rfl rfl rfl (Nat.le_of_ble_eq_true rfl) (Nat.le_of_ble_eq_true rfl) e6 (zm_isPost_ok sc d (by omega) e5) ?_
  refine zq_wg 0 (pc' := 10) (lv' := [some (.ref a0), some (.int a1), some (.int a2)]) (st' := [.int v4]) (h' := h3) rfl ?_
  refine zr_if (v4 = 0) 22 13 (st' := []) rfl rfl (fun b7 => ?_) (fun b7 => ?_)
  · have hf := zo_t hf b7
    refine zq_wg 1 (pc' := 23) (lv' := [some (.ref a0), some (.int a1), some (.int a2)]) (st' := [.int (-1 : Int32)]) (h' := h3) rfl ?_
    exact zr_ri rfl rfl rfl hf
  · have hf := zo_f hf b7
    refine zq_wg 3 (pc' := 16) (lv' := [some (.ref a0), some (.int a1), some (.int a2)]) (st' := [.int (4 : Int32), .int (0 : Int32), .int a2]) (h' := h3) rfl ?_
    obtain ⟨v9, h8, e10, hf⟩ := zo_c_s hf
    refine zr_cs zq_m173 [.int a2, .int (0 : Int32), .int (4 : Int32)] [] rfl rfl (by decide) rfl rfl rfl (Nat.le_of_ble_eq_true rfl) (Nat.le_of_ble_eq_true rfl) (zm_within_ok sc d (by omega) e10) ?_
    refine zq_wg 0 (pc' := 19) (lv' := [some (.ref a0), some (.int a1), some (.int a2)]) (st' := [.int v9]) (h' := h8) rfl ?_
    refine zr_if (v9 = 0) 22 24 (st' := []) rfl rfl (fun b11 => ?_) (fun b11 => ?_)
    · have hf := zo_t hf b11
      refine zq_wg 1 (pc' := 23) (lv' := [some (.ref a0), some (.int a1), some (.int a2)]) (st' := [.int (-1 : Int32)]) (h' := h8) rfl ?_
      exact zr_ri rfl rfl rfl hf
    · have hf := zo_f hf b11
      refine zq_wg 2 (pc' := 26) (lv' := [some (.ref a0), some (.int a1), some (.int a2)]) (st' := [.int (0 : Int32), .ref a0]) (h' := h8) rfl ?_
      obtain ⟨e15, w13, h12, e14, hf⟩ := zo_v_s hf
      refine zr_cv zq_m189 [.int (0 : Int32)] [] rfl rfl rfl rfl rfl (Nat.le_of_ble_eq_true rfl) (Nat.le_of_ble_eq_true rfl) e15 (zm_laysHeld_ok sc d (by omega) e14) ?_
      refine zq_wg 0 (pc' := 29) (lv' := [some (.ref a0), some (.int a1), some (.int a2)]) (st' := []) (h' := h12) rfl ?_
      refine zq_wg 2 (pc' := 31) (lv' := [some (.ref a0), some (.int a1), some (.int a2)]) (st' := [.int (3 : Int32), .int a2]) (h' := h12) rfl ?_
      refine zr_if ((3 : Int32) ≤ a2) 43 34 (st' := []) rfl rfl (fun b16 => ?_) (fun b16 => ?_)
      · have hf := zo_t hf b16
        refine zq_wg 2 (pc' := 45) (lv' := [some (.ref a0), some (.int a1), some (.int a2)]) (st' := [.int (3 : Int32), .int a2]) (h' := h12) rfl ?_
        refine zr_if (a2 = (3 : Int32)) 48 57 (st' := []) rfl rfl (fun b17 => ?_) (fun b17 => ?_)
        · have hf := zo_t hf b17
          refine zq_wg 1 (pc' := 49) (lv' := [some (.ref a0), some (.int a1), some (.int a2)]) (st' := [.ref a0]) (h' := h12) rfl ?_
          obtain ⟨v18, e19, hf⟩ := zo_b_s hf
          refine zr_gR rfl rfl (by decide) rfl e19 ?_
          refine zq_wg 1 (pc' := 53) (lv' := [some (.ref a0), some (.int a1), some (.int a2)]) (st' := [.int a1, .ref v18]) (h' := h12) rfl ?_
          obtain ⟨v20, e21, hf⟩ := zo_b_s hf
          refine zr_iald rfl e21 ?_
          refine zq_wg 1 (pc' := 70) (lv' := [some (.ref a0), some (.int a1), some (.int a2)]) (st' := [.int v20]) (h' := h12) rfl ?_
          exact zr_ri rfl rfl rfl hf
        · have hf := zo_f hf b17
          refine zq_wg 2 (pc' := 59) (lv' := [some (.ref a0), some (.int a1), some (.int a2)]) (st' := [.int a1, .ref a0]) (h' := h12) rfl ?_
          obtain ⟨e25, v23, h22, e24, hf⟩ := zo_v_s hf
          refine zr_cv zq_m196 [.int a1] [] rfl rfl rfl rfl rfl (Nat.le_of_ble_eq_true rfl) (Nat.le_of_ble_eq_true rfl) e25 (zm_doesObey_ok sc d (by omega) e24) ?_
          refine zq_wg 0 (pc' := 62) (lv' := [some (.ref a0), some (.int a1), some (.int a2)]) (st' := [.int v23]) (h' := h22) rfl ?_
          refine zr_if (v23 = 0) 69 65 (st' := []) rfl rfl (fun b26 => ?_) (fun b26 => ?_)
          · have hf := zo_t hf b26
            refine zq_wg 1 (pc' := 70) (lv' := [some (.ref a0), some (.int a1), some (.int a2)]) (st' := [.int (0 : Int32)]) (h' := h22) rfl ?_
            exact zr_ri rfl rfl rfl hf
          · have hf := zo_f hf b26
            refine zq_wg 2 (pc' := 70) (lv' := [some (.ref a0), some (.int a1), some (.int a2)]) (st' := [.int (1 : Int32)]) (h' := h22) rfl ?_
            exact zr_ri rfl rfl rfl hf
      · have hf := zo_f hf b16
        refine zq_wg 3 (pc' := 37) (lv' := [some (.ref a0), some (.int a1), some (.int a2)]) (st' := [.int a2, .int a1, .ref a0]) (h' := h12) rfl ?_
        obtain ⟨e30, v28, h27, e29, hf⟩ := zo_v_s hf
        refine zr_cv zq_m193 [.int a1, .int a2] [] rfl rfl rfl rfl rfl (Nat.le_of_ble_eq_true rfl) (Nat.le_of_ble_eq_true rfl) e30 (zm_postOf_ok sc d (by omega) e29) ?_
        refine zq_wg 0 (pc' := 40) (lv' := [some (.ref a0), some (.int a1), some (.int a2)]) (st' := [.int v28]) (h' := h27) rfl ?_
        refine zq_wg 1 (pc' := 70) (lv' := [some (.ref a0), some (.int a1), some (.int a2)]) (st' := [.int v28]) (h' := h27) rfl ?_
        exact zr_ri rfl rfl rfl hf
set_option maxRecDepth 4000 in
def zm_isMan (sc : zX) (a0 : Nat) (a1 : Int32) (h : zH) : Option (Int32 × zH) := if a1 < 0 then (some ((0 : Int32), h)) else (zo_v h a0 10 (zm_men sc a0 h) (fun v3 h2 => if v3 ≤ a1 then (some ((0 : Int32), h2)) else (some ((1 : Int32), h2))))
set_option maxRecDepth 4000 in
theorem zm_isMan_ok (sc : zX) (d : Nat) (hd : 1 ≤ d) {a0 : Nat} {a1 : Int32} {h : zH} {ro_ : Int32} {ho_ : zH} (hf : zm_isMan sc a0 a1 h = some (ro_, ho_)) : zq_wm sc d 198 [.ref a0, .int a1] h (some (.int ro_), ho_) := by
  unfold zm_isMan at hf
  obtain ⟨d, rfl⟩ : ∃ d', d = d' + 1 := ⟨d - 1, by omega⟩
  have hd : 0 ≤ d := by omega
  show zq_wp sc (d + 1) 198 0 [some (.ref a0), some (.int a1)] [] h _
  refine zq_wg 1 (pc' := 1) (lv' := [some (.ref a0), some (.int a1)]) (st' := [.int a1]) (h' := h) rfl ?_
  refine zr_if (a1 < 0) 16 4 (st' := []) rfl rfl (fun b1 => ?_) (fun b1 => ?_)
  · have hf := zo_t hf b1
    refine zq_wg 1 (pc' := 17) (lv' := [some (.ref a0), some (.int a1)]) (st' := [.int (0 : Int32)]) (h' := h) rfl ?_
    exact zr_ri rfl rfl rfl hf
  · have hf := zo_f hf b1
    refine zq_wg 2 (pc' := 6) (lv' := [some (.ref a0), some (.int a1)]) (st' := [.ref a0, .int a1]) (h' := h) rfl ?_
    obtain ⟨e5, v3, h2, e4, hf⟩ := zo_v_s hf
    refine zr_cv zq_m152 [] [.int a1] rfl rfl rfl rfl rfl (Nat.le_of_ble_eq_true rfl) (Nat.le_of_ble_eq_true rfl) e5 (zm_men_ok sc d (by omega) e4) ?_
    refine zq_wg 0 (pc' := 9) (lv' := [some (.ref a0), some (.int a1)]) (st' := [.int v3, .int a1]) (h' := h2) rfl ?_
    refine zr_if (v3 ≤ a1) 16 12 (st' := []) rfl rfl (fun b6 => ?_) (fun b6 => ?_)
    · have hf := zo_t hf b6
      refine zq_wg 1 (pc' := 17) (lv' := [some (.ref a0), some (.int a1)]) (st' := [.int (0 : Int32)]) (h' := h2) rfl ?_
      exact zr_ri rfl rfl rfl hf
    · have hf := zo_f hf b6
      refine zq_wg 2 (pc' := 17) (lv' := [some (.ref a0), some (.int a1)]) (st' := [.int (1 : Int32)]) (h' := h2) rfl ?_
      exact zr_ri rfl rfl rfl hf
set_option maxRecDepth 4000 in
def zm_postHeldBy_l5 (sc : zX) : Nat → Nat → Int32 → Int32 → Int32 → Int32 → zH → Option (Int32 × zH)
  | 0, _, _, _, _, _, _ => none
  | n + 1, y1, y2, y3, y4, y5, h6 => zo_v h6 y1 10 (zm_posts sc y1 h6) (fun v8 h7 => if v8 ≤ y5 then (some (y4, h7)) else (zo_b (zo_gR h7 10 y1 25) (fun v12 => zo_b (zq_rdI sc h7 v12 ((y2 + (4 : Int32)) + y5)) (fun v14 => zo_l (if v14 = y3 then y5 else y4) (fun (x16 : Int32) => zm_postHeldBy_l5 sc n y1 y2 y3 x16 (y5 + (1 : Int32)) h7 )))))
set_option maxRecDepth 4000 in
def zm_postHeldBy (sc : zX) (a0 : Nat) (a1 : Int32) (a2 : Int32) (h : zH) : Option (Int32 × zH) := zm_postHeldBy_l5 sc zo_F a0 a1 a2 (-1 : Int32) (0 : Int32) h 
set_option maxRecDepth 4000 in
theorem zm_postHeldBy_l5_ok (sc : zX) (d : Nat) (hd : 0 ≤ d) : ∀ (n : Nat) (y1 : Nat) (y2 : Int32) (y3 : Int32) (y4 : Int32) (y5 : Int32) (h6 : zH) (ro_ : Int32) (ho_ : zH),  zm_postHeldBy_l5 sc n y1 y2 y3 y4 y5 h6  = some (ro_, ho_) → zq_wp sc (d + 1) 199 5 [some (.ref y1), some (.int y2), some (.int y3), some (.int y4), some (.int y5)] [] h6 (some (.int ro_), ho_) := by
  intro n
  induction n with
  | zero => intro y1 y2 y3 y4 y5 h6 ro_ ho_ hf; cases hf
  | succ n ih =>
    intro y1 y2 y3 y4 y5 h6 ro_ ho_ hf
    refine zq_wg 2 (pc' := 8) (lv' := [some (.ref y1), some (.int y2), some (.int y3), some (.int y4), some (.int y5)]) (st' := [.ref y1, .int y5]) (h' := h6) rfl ?_
    obtain ⟨e10, v8, h7, e9, hf⟩ := zo_v_s hf
    refine zr_cv zq_m151 [] [.int y5] rfl rfl rfl rfl rfl (Nat.le_of_ble_eq_true rfl) (Nat.le_of_ble_eq_true rfl) e10 (zm_posts_ok sc d (by omega) e9) ?_
    refine zq_wg 0 (pc' := 11) (lv' := [some (.ref y1), some (.int y2), some (.int y3), some (.int y4), some (.int y5)]) (st' := [.int v8, .int y5]) (h' := h7) rfl ?_
    refine zr_if (v8 ≤ y5) 42 14 (st' := []) rfl rfl (fun b11 => ?_) (fun b11 => ?_)
    · have hf := zo_t hf b11
      refine zq_wg 1 (pc' := 43) (lv' := [some (.ref y1), some (.int y2), some (.int y3), some (.int y4), some (.int y5)]) (st' := [.int y4]) (h' := h7) rfl ?_
      exact zr_ri rfl rfl rfl hf
    · have hf := zo_f hf b11
      refine zq_wg 1 (pc' := 15) (lv' := [some (.ref y1), some (.int y2), some (.int y3), some (.int y4), some (.int y5)]) (st' := [.ref y1]) (h' := h7) rfl ?_
      obtain ⟨v12, e13, hf⟩ := zo_b_s hf
      refine zr_gR rfl rfl (by decide) rfl e13 ?_
      refine zq_wg 5 (pc' := 24) (lv' := [some (.ref y1), some (.int y2), some (.int y3), some (.int y4), some (.int y5)]) (st' := [.int ((y2 + (4 : Int32)) + y5), .ref v12]) (h' := h7) rfl ?_
      obtain ⟨v14, e15, hf⟩ := zo_b_s hf
      refine zr_iald rfl e15 ?_
      refine zq_wg 1 (pc' := 26) (lv' := [some (.ref y1), some (.int y2), some (.int y3), some (.int y4), some (.int y5)]) (st' := [.int y3, .int v14]) (h' := h7) rfl ?_
      obtain ⟨g35_16, hg35_16, hf⟩ := zo_lx hf
      have kg35_16 : ∀ (x16 : Int32), g35_16 x16 = some (ro_, ho_) → zq_wp sc (d + 1) 199 35 [some (.ref y1), some (.int y2), some (.int y3), some (.int y4), some (.int y5)] [.int x16] h7 (some (.int ro_), ho_) := by
        intro x16 hf
        rw [hg35_16] at hf
        refine zq_wg 3 (pc' := 5) (lv' := [some (.ref y1), some (.int y2), some (.int y3), some (.int x16), some (.int (y5 + (1 : Int32)))]) (st' := []) (h' := h7) rfl ?_
        exact ih y1 y2 y3 x16 (y5 + (1 : Int32)) h7 _ _ hf
      refine zr_if (v14 = y3) 29 34 (st' := []) rfl rfl (fun b17 => ?_) (fun b17 => ?_)
      · have hf := zo_lt hf b17
        refine zq_wg 2 (pc' := 35) (lv' := [some (.ref y1), some (.int y2), some (.int y3), some (.int y4), some (.int y5)]) (st' := [.int y5]) (h' := h7) rfl ?_
        exact kg35_16 _ hf
      · have hf := zo_lf hf b17
        refine zq_wg 1 (pc' := 35) (lv' := [some (.ref y1), some (.int y2), some (.int y3), some (.int y4), some (.int y5)]) (st' := [.int y4]) (h' := h7) rfl ?_
        exact kg35_16 _ hf
set_option maxRecDepth 4000 in
theorem zm_postHeldBy_ok (sc : zX) (d : Nat) (hd : 1 ≤ d) {a0 : Nat} {a1 : Int32} {a2 : Int32} {h : zH} {ro_ : Int32} {ho_ : zH} (hf : zm_postHeldBy sc a0 a1 a2 h = some (ro_, ho_)) : zq_wm sc d 199 [.ref a0, .int a1, .int a2] h (some (.int ro_), ho_) := by
  unfold zm_postHeldBy at hf
  obtain ⟨d, rfl⟩ : ∃ d', d = d' + 1 := ⟨d - 1, by omega⟩
  have hd : 0 ≤ d := by omega
  show zq_wp sc (d + 1) 199 0 [some (.ref a0), some (.int a1), some (.int a2), none, none] [] h _
  refine zq_wg 4 (pc' := 5) (lv' := [some (.ref a0), some (.int a1), some (.int a2), some (.int (-1 : Int32)), some (.int (0 : Int32))]) (st' := []) (h' := h) rfl ?_
  refine zm_postHeldBy_l5_ok sc d hd zo_F a0 a1 a2 (-1 : Int32) (0 : Int32) h _ _ hf
set_option maxRecDepth 4000 in
def zm_man (sc : zX) (a0 : Nat) (a1 : Int32) (a2 : Int32) (h : zH) : Option (Int32 × zH) := zo_b (zo_pI h 10 a0 0 (0 : Int32)) (fun h1 => zo_v h1 a0 10 (zm_isMan sc a0 a1 h1) (fun v4 h3 => zo_l (fun  (h7 : zH) => some ((-1 : Int32), h7)) (fun j22_7 => if v4 = 0 then (j22_7  h3) else (zo_c (zm_within sc a2 (0 : Int32) (3 : Int32) h3) (fun v10 h9 => if v10 = 0 then (j22_7  h9) else (if (2 : Int32) ≤ a2 then (if a2 = (2 : Int32) then (zo_b (zo_gR h9 10 a0 25) (fun v15 => zo_b (zq_rdI sc h9 v15 ((10 : Int32) + a1)) (fun v17 => some (v17, h9)))) else (zo_v h9 a0 10 (zm_postHeldBy sc a0 (0 : Int32) a1 h9) (fun v20 h19 => some (v20, h19)))) else (zo_v h9 a0 10 (zm_manOf sc a0 a1 a2 h9) (fun v24 h23 => some (v24, h23)))))))))
set_option maxRecDepth 4000 in
theorem zm_man_ok (sc : zX) (d : Nat) (hd : 2 ≤ d) {a0 : Nat} {a1 : Int32} {a2 : Int32} {h : zH} {ro_ : Int32} {ho_ : zH} (hf : zm_man sc a0 a1 a2 h = some (ro_, ho_)) : zq_wm sc d 197 [.ref a0, .int a1, .int a2] h (some (.int ro_), ho_) := by
  unfold zm_man at hf
  obtain ⟨d, rfl⟩ : ∃ d', d = d' + 1 := ⟨d - 1, by omega⟩
  have hd : 1 ≤ d := by omega
  show zq_wp sc (d + 1) 197 0 [some (.ref a0), some (.int a1), some (.int a2)] [] h _
  refine zq_wg 2 (pc' := 2) (lv' := [some (.ref a0), some (.int a1), some (.int a2)]) (st' := [.int (0 : Int32), .ref a0]) (h' := h) rfl ?_
  obtain ⟨h1, e2, hf⟩ := zo_b_s hf
  refine zr_pI rfl rfl (by decide) rfl rfl e2 ?_
  refine zq_wg 2 (pc' := 7) (lv' := [some (.ref a0), some (.int a1), some (.int a2)]) (st' := [.int a1, .ref a0]) (h' := h1) rfl ?_
  obtain ⟨e6, v4, h3, e5, hf⟩ := zo_v_s hf
  refine zr_cv zq_m198 [.int a1] [] rfl rfl rfl rfl rfl (Nat.le_of_ble_eq_true rfl) (Nat.le_of_ble_eq_true rfl) e6 (zm_isMan_ok sc d (by omega) e5) ?_
  refine zq_wg 0 (pc' := 10) (lv' := [some (.ref a0), some (.int a1), some (.int a2)]) (st' := [.int v4]) (h' := h3) rfl ?_
  obtain ⟨j22_7, hjj22_7, hf⟩ := zo_lj hf
  have kj22_7 : ∀  (h7 : zH), j22_7 h7 = some (ro_, ho_) → zq_wp sc (d + 1) 197 22 [none, none, none] [] h7 (some (.int ro_), ho_) := by
    intro h7 hf
    rw [hjj22_7] at hf
    refine zq_wg 2 (pc' := 63) (lv' := [none, none, none]) (st' := [.int (-1 : Int32)]) (h' := h7) rfl ?_
    exact zr_ri rfl rfl rfl hf
  refine zr_if (v4 = 0) 22 13 (st' := []) rfl rfl (fun b8 => ?_) (fun b8 => ?_)
  · have hf := zo_t hf b8
    refine zq_fg [none, none, none] (zq_lvle_n (zq_lvle_n (zq_lvle_n zq_lvle_nil))) ?_
    exact kj22_7  h3 hf
  · have hf := zo_f hf b8
    refine zq_wg 3 (pc' := 16) (lv' := [some (.ref a0), some (.int a1), some (.int a2)]) (st' := [.int (3 : Int32), .int (0 : Int32), .int a2]) (h' := h3) rfl ?_
    obtain ⟨v10, h9, e11, hf⟩ := zo_c_s hf
    refine zr_cs zq_m173 [.int a2, .int (0 : Int32), .int (3 : Int32)] [] rfl rfl (by decide) rfl rfl rfl (Nat.le_of_ble_eq_true rfl) (Nat.le_of_ble_eq_true rfl) (zm_within_ok sc d (by omega) e11) ?_
    refine zq_wg 0 (pc' := 19) (lv' := [some (.ref a0), some (.int a1), some (.int a2)]) (st' := [.int v10]) (h' := h9) rfl ?_
    refine zr_if (v10 = 0) 22 26 (st' := []) rfl rfl (fun b12 => ?_) (fun b12 => ?_)
    · have hf := zo_t hf b12
      refine zq_fg [none, none, none] (zq_lvle_n (zq_lvle_n (zq_lvle_n zq_lvle_nil))) ?_
      exact kj22_7  h9 hf
    · have hf := zo_f hf b12
      refine zq_wg 2 (pc' := 28) (lv' := [some (.ref a0), some (.int a1), some (.int a2)]) (st' := [.int (2 : Int32), .int a2]) (h' := h9) rfl ?_
      refine zr_if ((2 : Int32) ≤ a2) 40 31 (st' := []) rfl rfl (fun b13 => ?_) (fun b13 => ?_)
      · have hf := zo_t hf b13
        refine zq_wg 2 (pc' := 42) (lv' := [some (.ref a0), some (.int a1), some (.int a2)]) (st' := [.int (2 : Int32), .int a2]) (h' := h9) rfl ?_
        refine zr_if (a2 = (2 : Int32)) 45 57 (st' := []) rfl rfl (fun b14 => ?_) (fun b14 => ?_)
        · have hf := zo_t hf b14
          refine zq_wg 1 (pc' := 46) (lv' := [some (.ref a0), some (.int a1), some (.int a2)]) (st' := [.ref a0]) (h' := h9) rfl ?_
          obtain ⟨v15, e16, hf⟩ := zo_b_s hf
          refine zr_gR rfl rfl (by decide) rfl e16 ?_
          refine zq_wg 3 (pc' := 53) (lv' := [some (.ref a0), some (.int a1), some (.int a2)]) (st' := [.int ((10 : Int32) + a1), .ref v15]) (h' := h9) rfl ?_
          obtain ⟨v17, e18, hf⟩ := zo_b_s hf
          refine zr_iald rfl e18 ?_
          refine zq_wg 1 (pc' := 63) (lv' := [some (.ref a0), some (.int a1), some (.int a2)]) (st' := [.int v17]) (h' := h9) rfl ?_
          exact zr_ri rfl rfl rfl hf
        · have hf := zo_f hf b14
          refine zq_wg 3 (pc' := 60) (lv' := [some (.ref a0), some (.int a1), some (.int a2)]) (st' := [.int a1, .int (0 : Int32), .ref a0]) (h' := h9) rfl ?_
          obtain ⟨e22, v20, h19, e21, hf⟩ := zo_v_s hf
          refine zr_cv zq_m199 [.int (0 : Int32), .int a1] [] rfl rfl rfl rfl rfl (Nat.le_of_ble_eq_true rfl) (Nat.le_of_ble_eq_true rfl) e22 (zm_postHeldBy_ok sc d (by omega) e21) ?_
          refine zq_wg 0 (pc' := 63) (lv' := [some (.ref a0), some (.int a1), some (.int a2)]) (st' := [.int v20]) (h' := h19) rfl ?_
          exact zr_ri rfl rfl rfl hf
      · have hf := zo_f hf b13
        refine zq_wg 3 (pc' := 34) (lv' := [some (.ref a0), some (.int a1), some (.int a2)]) (st' := [.int a2, .int a1, .ref a0]) (h' := h9) rfl ?_
        obtain ⟨e26, v24, h23, e25, hf⟩ := zo_v_s hf
        refine zr_cv zq_m153 [.int a1, .int a2] [] rfl rfl rfl rfl rfl (Nat.le_of_ble_eq_true rfl) (Nat.le_of_ble_eq_true rfl) e26 (zm_manOf_ok sc d (by omega) e25) ?_
        refine zq_wg 0 (pc' := 37) (lv' := [some (.ref a0), some (.int a1), some (.int a2)]) (st' := [.int v24]) (h' := h23) rfl ?_
        refine zq_wg 1 (pc' := 63) (lv' := [some (.ref a0), some (.int a1), some (.int a2)]) (st' := [.int v24]) (h' := h23) rfl ?_
        exact zr_ri rfl rfl rfl hf
set_option maxRecDepth 4000 in
def zm_skill (sc : zX) (a0 : Nat) (a1 : Int32) (a2 : Int32) (h : zH) : Option (Int32 × zH) := zo_b (zo_pI h 10 a0 0 (0 : Int32)) (fun h1 => zo_v h1 a0 10 (zm_isMan sc a0 a1 h1) (fun v4 h3 => if v4 = 0 then (some ((-1 : Int32), h3)) else (zo_v h3 a0 10 (zm_isPost sc a0 a2 h3) (fun v9 h8 => if v9 = 0 then (some ((-1 : Int32), h8)) else (zo_v h8 a0 10 (zm_skillOf sc a0 a1 a2 h8) (fun v14 h13 => some (v14, h13)))))))
set_option maxRecDepth 4000 in
theorem zm_skill_ok (sc : zX) (d : Nat) (hd : 3 ≤ d) {a0 : Nat} {a1 : Int32} {a2 : Int32} {h : zH} {ro_ : Int32} {ho_ : zH} (hf : zm_skill sc a0 a1 a2 h = some (ro_, ho_)) : zq_wm sc d 200 [.ref a0, .int a1, .int a2] h (some (.int ro_), ho_) := by
  unfold zm_skill at hf
  obtain ⟨d, rfl⟩ : ∃ d', d = d' + 1 := ⟨d - 1, by omega⟩
  have hd : 2 ≤ d := by omega
  show zq_wp sc (d + 1) 200 0 [some (.ref a0), some (.int a1), some (.int a2)] [] h _
  refine zq_wg 2 (pc' := 2) (lv' := [some (.ref a0), some (.int a1), some (.int a2)]) (st' := [.int (0 : Int32), .ref a0]) (h' := h) rfl ?_
  obtain ⟨h1, e2, hf⟩ := zo_b_s hf
  refine zr_pI rfl rfl (by decide) rfl rfl e2 ?_
  refine zq_wg 2 (pc' := 7) (lv' := [some (.ref a0), some (.int a1), some (.int a2)]) (st' := [.int a1, .ref a0]) (h' := h1) rfl ?_
  obtain ⟨e6, v4, h3, e5, hf⟩ := zo_v_s hf
  refine zr_cv zq_m198 [.int a1] [] rfl rfl rfl rfl rfl (Nat.le_of_ble_eq_true rfl) (Nat.le_of_ble_eq_true rfl) e6 (zm_isMan_ok sc d (by omega) e5) ?_
  refine zq_wg 0 (pc' := 10) (lv' := [some (.ref a0), some (.int a1), some (.int a2)]) (st' := [.int v4]) (h' := h3) rfl ?_
  refine zr_if (v4 = 0) 30 13 (st' := []) rfl rfl (fun b7 => ?_) (fun b7 => ?_)
  · have hf := zo_t hf b7
    refine zq_wg 1 (pc' := 31) (lv' := [some (.ref a0), some (.int a1), some (.int a2)]) (st' := [.int (-1 : Int32)]) (h' := h3) rfl ?_
    exact zr_ri rfl rfl rfl hf
  · have hf := zo_f hf b7
    refine zq_wg 2 (pc' := 15) (lv' := [some (.ref a0), some (.int a1), some (.int a2)]) (st' := [.int a2, .ref a0]) (h' := h3) rfl ?_
    obtain ⟨e11, v9, h8, e10, hf⟩ := zo_v_s hf
    refine zr_cv zq_m188 [.int a2] [] rfl rfl rfl rfl rfl (Nat.le_of_ble_eq_true rfl) (Nat.le_of_ble_eq_true rfl) e11 (zm_isPost_ok sc d (by omega) e10) ?_
    refine zq_wg 0 (pc' := 18) (lv' := [some (.ref a0), some (.int a1), some (.int a2)]) (st' := [.int v9]) (h' := h8) rfl ?_
    refine zr_if (v9 = 0) 30 21 (st' := []) rfl rfl (fun b12 => ?_) (fun b12 => ?_)
    · have hf := zo_t hf b12
      refine zq_wg 1 (pc' := 31) (lv' := [some (.ref a0), some (.int a1), some (.int a2)]) (st' := [.int (-1 : Int32)]) (h' := h8) rfl ?_
      exact zr_ri rfl rfl rfl hf
    · have hf := zo_f hf b12
      refine zq_wg 3 (pc' := 24) (lv' := [some (.ref a0), some (.int a1), some (.int a2)]) (st' := [.int a2, .int a1, .ref a0]) (h' := h8) rfl ?_
      obtain ⟨e16, v14, h13, e15, hf⟩ := zo_v_s hf
      refine zr_cv zq_m191 [.int a1, .int a2] [] rfl rfl rfl rfl rfl (Nat.le_of_ble_eq_true rfl) (Nat.le_of_ble_eq_true rfl) e16 (zm_skillOf_ok sc d (by omega) e15) ?_
      refine zq_wg 0 (pc' := 27) (lv' := [some (.ref a0), some (.int a1), some (.int a2)]) (st' := [.int v14]) (h' := h13) rfl ?_
      refine zq_wg 1 (pc' := 31) (lv' := [some (.ref a0), some (.int a1), some (.int a2)]) (st' := [.int v14]) (h' := h13) rfl ?_
      exact zr_ri rfl rfl rfl hf
set_option maxRecDepth 4000 in
def zm_oursNow_l4 (sc : zX) : Nat → Nat → Int32 → Int32 → zH → (Int32 → zH → Option (Int32 × zH)) → Option (Int32 × zH)
  | 0, _, _, _, _, _ => none
  | n + 1, y1, y2, y3, h4, k90 => zo_v h4 y1 10 (zm_posts sc y1 h4) (fun v6 h5 => if v6 ≤ y3 then (k90 y2 h5) else (zo_v h5 y1 10 (zm_postOf sc y1 y3 (0 : Int32) h5) (fun v11 h10 => zo_v h10 y1 10 (zm_doesObey sc y1 y3 h10) (fun v15 h14 => zo_l (fun (x18 : Nat) (x19 : Int32) (x20 : Int32) (x21 : Int32) (x22 : Int32) (h23 : zH) => zo_l (fun (x24 : Nat) (x25 : Int32) (x26 : Int32) (x27 : Int32) (h28 : zH) => zm_oursNow_l4 sc n x24 (x26 + x27) (x25 + (1 : Int32)) h28 k90) (fun j82_28 => if x21 = (2 : Int32) then (zo_b (zo_dv x22 (2 : Int32)) (fun v30 => j82_28 x18 x20 x19 v30 h23)) else (if x21 = (3 : Int32) then (j82_28 x18 x20 x19 (-x22) h23) else (j82_28 x18 x20 x19 x22 h23)))) (fun j54_23 => if v15 = 0 then (j54_23 y1 y2 y3 v11 (0 : Int32) h14) else (zo_b (zo_gR h14 10 y1 28) (fun v34 => zo_b (zo_gR h14 10 y1 29) (fun v36 => zo_b (zq_rdI sc h14 v36 y3) (fun v38 => zo_b (zq_rdI sc h14 v34 (((6 : Int32) * v38) + y3)) (fun v40 => zo_v h14 y1 10 (zm_postOf sc y1 y3 (1 : Int32) h14) (fun v43 h42 => j54_23 y1 y2 y3 v11 (v40 * v43) h42)))))))))))
set_option maxRecDepth 4000 in
def zm_oursNow (sc : zX) (a0 : Nat) (h : zH) : Option (Int32 × zH) := zm_oursNow_l4 sc zo_F a0 (0 : Int32) (0 : Int32) h (fun (x46 : Int32) (h47 : zH) => if 0 ≤ x46 then (some (x46, h47)) else (some ((0 : Int32), h47)))
set_option maxRecDepth 4000 in
theorem zm_oursNow_l4_ok (sc : zX) (d : Nat) (hd : 1 ≤ d) : ∀ (n : Nat) (y1 : Nat) (y2 : Int32) (y3 : Int32) (h4 : zH) (k90 : Int32 → zH → Option (Int32 × zH)) (ro_ : Int32) (ho_ : zH), (∀ (z0 : Int32) (hz : zH), k90 z0 hz = some (ro_, ho_) → zq_wp sc (d + 1) 203 90 [none, some (.int z0), none, none, none] [] hz (some (.int ro_), ho_)) → zm_oursNow_l4 sc n y1 y2 y3 h4 k90 = some (ro_, ho_) → zq_wp sc (d + 1) 203 4 [some (.ref y1), some (.int y2), some (.int y3), none, none] [] h4 (some (.int ro_), ho_) := by
  intro n
  induction n with
  | zero => intro y1 y2 y3 h4 k90 ro_ ho_ hk90 hf; cases hf
  | succ n ih =>
    intro y1 y2 y3 h4 k90 ro_ ho_ hk90 hf
    refine zq_wg 2 (pc' := 6) (lv' := [some (.ref y1), some (.int y2), some (.int y3), none, none]) (st' := [.ref y1, .int y3]) (h' := h4) rfl ?_
    obtain ⟨e8, v6, h5, e7, hf⟩ := zo_v_s hf
    refine zr_cv zq_m151 [] [.int y3] rfl rfl rfl rfl rfl (Nat.le_of_ble_eq_true rfl) (Nat.le_of_ble_eq_true rfl) e8 (zm_posts_ok sc d (by omega) e7) ?_
    refine zq_wg 0 (pc' := 9) (lv' := [some (.ref y1), some (.int y2), some (.int y3), none, none]) (st' := [.int v6, .int y3]) (h' := h5) rfl ?_
    refine zr_if (v6 ≤ y3) 90 12 (st' := []) rfl rfl (fun b9 => ?_) (fun b9 => ?_)
    · have hf := zo_t hf b9
      refine zq_fg [none, some (.int y2), none, none, none] (zq_lvle_n (zq_lvle_s (zq_lvle_n (zq_lvle_s (zq_lvle_s zq_lvle_nil))))) ?_
      exact hk90 y2 h5 hf
    · have hf := zo_f hf b9
      refine zq_wg 3 (pc' := 15) (lv' := [some (.ref y1), some (.int y2), some (.int y3), none, none]) (st' := [.int (0 : Int32), .int y3, .ref y1]) (h' := h5) rfl ?_
      obtain ⟨e13, v11, h10, e12, hf⟩ := zo_v_s hf
      refine zr_cv zq_m193 [.int y3, .int (0 : Int32)] [] rfl rfl rfl rfl rfl (Nat.le_of_ble_eq_true rfl) (Nat.le_of_ble_eq_true rfl) e13 (zm_postOf_ok sc d (by omega) e12) ?_
      refine zq_wg 0 (pc' := 18) (lv' := [some (.ref y1), some (.int y2), some (.int y3), none, none]) (st' := [.int v11]) (h' := h10) rfl ?_
      refine zq_wg 3 (pc' := 21) (lv' := [some (.ref y1), some (.int y2), some (.int y3), some (.int v11), none]) (st' := [.int y3, .ref y1]) (h' := h10) rfl ?_
      obtain ⟨e17, v15, h14, e16, hf⟩ := zo_v_s hf
      refine zr_cv zq_m196 [.int y3] [] rfl rfl rfl rfl rfl (Nat.le_of_ble_eq_true rfl) (Nat.le_of_ble_eq_true rfl) e17 (zm_doesObey_ok sc d (by omega) e16) ?_
      refine zq_wg 0 (pc' := 24) (lv' := [some (.ref y1), some (.int y2), some (.int y3), some (.int v11), none]) (st' := [.int v15]) (h' := h14) rfl ?_
      obtain ⟨j54_23, hjj54_23, hf⟩ := zo_lj hf
      have kj54_23 : ∀ (x18 : Nat) (x19 : Int32) (x20 : Int32) (x21 : Int32) (x22 : Int32) (h23 : zH), j54_23 x18 x19 x20 x21 x22 h23 = some (ro_, ho_) → zq_wp sc (d + 1) 203 54 [some (.ref x18), some (.int x19), some (.int x20), some (.int x21), none] [.int x22] h23 (some (.int ro_), ho_) := by
        intro x18 x19 x20 x21 x22 h23 hf
        rw [hjj54_23] at hf
        refine zq_wg 4 (pc' := 59) (lv' := [some (.ref x18), some (.int x19), some (.int x20), some (.int x21), some (.int x22)]) (st' := [.int (2 : Int32), .int x21, .int x19]) (h' := h23) rfl ?_
        obtain ⟨j82_28, hjj82_28, hf⟩ := zo_lj hf
        have kj82_28 : ∀ (x24 : Nat) (x25 : Int32) (x26 : Int32) (x27 : Int32) (h28 : zH), j82_28 x24 x25 x26 x27 h28 = some (ro_, ho_) → zq_wp sc (d + 1) 203 82 [some (.ref x24), none, some (.int x25), none, none] [.int x27, .int x26] h28 (some (.int ro_), ho_) := by
          intro x24 x25 x26 x27 h28 hf
          rw [hjj82_28] at hf
          refine zq_wg 4 (pc' := 4) (lv' := [some (.ref x24), some (.int (x26 + x27)), some (.int (x25 + (1 : Int32))), none, none]) (st' := []) (h' := h28) rfl ?_
          exact ih x24 (x26 + x27) (x25 + (1 : Int32)) h28 _ _ _ hk90 hf
        refine zr_if (x21 = (2 : Int32)) 62 69 (st' := [.int x19]) rfl rfl (fun b29 => ?_) (fun b29 => ?_)
        · have hf := zo_t hf b29
          refine zq_wg 2 (pc' := 65) (lv' := [some (.ref x18), some (.int x19), some (.int x20), some (.int x21), some (.int x22)]) (st' := [.int (2 : Int32), .int x22, .int x19]) (h' := h23) rfl ?_
          obtain ⟨v30, e31, hf⟩ := zo_b_s hf
          refine zr_idiv rfl e31 ?_
          refine zq_wg 1 (pc' := 82) (lv' := [some (.ref x18), some (.int x19), some (.int x20), some (.int x21), some (.int x22)]) (st' := [.int v30, .int x19]) (h' := h23) rfl ?_
          refine zq_fg [some (.ref x18), none, some (.int x20), none, none] (zq_lvle_s (zq_lvle_n (zq_lvle_s (zq_lvle_n (zq_lvle_n zq_lvle_nil))))) ?_
          exact kj82_28 x18 x20 x19 v30 h23 hf
        · have hf := zo_f hf b29
          refine zq_wg 2 (pc' := 71) (lv' := [some (.ref x18), some (.int x19), some (.int x20), some (.int x21), some (.int x22)]) (st' := [.int (3 : Int32), .int x21, .int x19]) (h' := h23) rfl ?_
          refine zr_if (x21 = (3 : Int32)) 74 80 (st' := [.int x19]) rfl rfl (fun b32 => ?_) (fun b32 => ?_)
          · have hf := zo_t hf b32
            refine zq_wg 3 (pc' := 82) (lv' := [some (.ref x18), some (.int x19), some (.int x20), some (.int x21), some (.int x22)]) (st' := [.int (-x22), .int x19]) (h' := h23) rfl ?_
            refine zq_fg [some (.ref x18), none, some (.int x20), none, none] (zq_lvle_s (zq_lvle_n (zq_lvle_s (zq_lvle_n (zq_lvle_n zq_lvle_nil))))) ?_
            exact kj82_28 x18 x20 x19 (-x22) h23 hf
          · have hf := zo_f hf b32
            refine zq_wg 1 (pc' := 82) (lv' := [some (.ref x18), some (.int x19), some (.int x20), some (.int x21), some (.int x22)]) (st' := [.int x22, .int x19]) (h' := h23) rfl ?_
            refine zq_fg [some (.ref x18), none, some (.int x20), none, none] (zq_lvle_s (zq_lvle_n (zq_lvle_s (zq_lvle_n (zq_lvle_n zq_lvle_nil))))) ?_
            exact kj82_28 x18 x20 x19 x22 h23 hf
      refine zr_if (v15 = 0) 53 27 (st' := []) rfl rfl (fun b33 => ?_) (fun b33 => ?_)
      · have hf := zo_t hf b33
        refine zq_wg 1 (pc' := 54) (lv' := [some (.ref y1), some (.int y2), some (.int y3), some (.int v11), none]) (st' := [.int (0 : Int32)]) (h' := h14) rfl ?_
        exact kj54_23 y1 y2 y3 v11 (0 : Int32) h14 hf
      · have hf := zo_f hf b33
        refine zq_wg 1 (pc' := 28) (lv' := [some (.ref y1), some (.int y2), some (.int y3), some (.int v11), none]) (st' := [.ref y1]) (h' := h14) rfl ?_
        obtain ⟨v34, e35, hf⟩ := zo_b_s hf
        refine zr_gR rfl rfl (by decide) rfl e35 ?_
        refine zq_wg 2 (pc' := 34) (lv' := [some (.ref y1), some (.int y2), some (.int y3), some (.int v11), none]) (st' := [.ref y1, .int (6 : Int32), .ref v34]) (h' := h14) rfl ?_
        obtain ⟨v36, e37, hf⟩ := zo_b_s hf
        refine zr_gR rfl rfl (by decide) rfl e37 ?_
        refine zq_wg 1 (pc' := 38) (lv' := [some (.ref y1), some (.int y2), some (.int y3), some (.int v11), none]) (st' := [.int y3, .ref v36, .int (6 : Int32), .ref v34]) (h' := h14) rfl ?_
        obtain ⟨v38, e39, hf⟩ := zo_b_s hf
        refine zr_iald rfl e39 ?_
        refine zq_wg 3 (pc' := 42) (lv' := [some (.ref y1), some (.int y2), some (.int y3), some (.int v11), none]) (st' := [.int (((6 : Int32) * v38) + y3), .ref v34]) (h' := h14) rfl ?_
        obtain ⟨v40, e41, hf⟩ := zo_b_s hf
        refine zr_iald rfl e41 ?_
        refine zq_wg 3 (pc' := 46) (lv' := [some (.ref y1), some (.int y2), some (.int y3), some (.int v11), none]) (st' := [.int (1 : Int32), .int y3, .ref y1, .int v40]) (h' := h14) rfl ?_
        obtain ⟨e45, v43, h42, e44, hf⟩ := zo_v_s hf
        refine zr_cv zq_m193 [.int y3, .int (1 : Int32)] [.int v40] rfl rfl rfl rfl rfl (Nat.le_of_ble_eq_true rfl) (Nat.le_of_ble_eq_true rfl) e45 (zm_postOf_ok sc d (by omega) e44) ?_
        refine zq_wg 0 (pc' := 49) (lv' := [some (.ref y1), some (.int y2), some (.int y3), some (.int v11), none]) (st' := [.int v43, .int v40]) (h' := h42) rfl ?_
        refine zq_wg 2 (pc' := 54) (lv' := [some (.ref y1), some (.int y2), some (.int y3), some (.int v11), none]) (st' := [.int (v40 * v43)]) (h' := h42) rfl ?_
        exact kj54_23 y1 y2 y3 v11 (v40 * v43) h42 hf
set_option maxRecDepth 4000 in
theorem zm_oursNow_ok (sc : zX) (d : Nat) (hd : 2 ≤ d) {a0 : Nat} {h : zH} {ro_ : Int32} {ho_ : zH} (hf : zm_oursNow sc a0 h = some (ro_, ho_)) : zq_wm sc d 203 [.ref a0] h (some (.int ro_), ho_) := by
  unfold zm_oursNow at hf
  obtain ⟨d, rfl⟩ : ∃ d', d = d' + 1 := ⟨d - 1, by omega⟩
  have hd : 1 ≤ d := by omega
  show zq_wp sc (d + 1) 203 0 [some (.ref a0), none, none, none, none] [] h _
  refine zq_wg 4 (pc' := 4) (lv' := [some (.ref a0), some (.int (0 : Int32)), some (.int (0 : Int32)), none, none]) (st' := []) (h' := h) rfl ?_
  refine zm_oursNow_l4_ok sc d hd zo_F a0 (0 : Int32) (0 : Int32) h _ _ _ ?_ hf
  · intro x46 h47 hf
    refine zq_wg 1 (pc' := 91) (lv' := [none, some (.int x46), none, none, none]) (st' := [.int x46]) (h' := h47) rfl ?_
    refine zr_if (0 ≤ x46) 98 94 (st' := []) rfl rfl (fun b48 => ?_) (fun b48 => ?_)
    · have hf := zo_t hf b48
      refine zq_wg 1 (pc' := 99) (lv' := [none, some (.int x46), none, none, none]) (st' := [.int x46]) (h' := h47) rfl ?_
      exact zr_ri rfl rfl rfl hf
    · have hf := zo_f hf b48
      refine zq_wg 2 (pc' := 99) (lv' := [none, some (.int x46), none, none, none]) (st' := [.int (0 : Int32)]) (h' := h47) rfl ?_
      exact zr_ri rfl rfl rfl hf
set_option maxRecDepth 4000 in
def zm_oursOf (sc : zX) (a0 : Nat) (a1 : Int32) (h : zH) : Option (Int32 × zH) := zo_v h a0 10 (zm_laysHeld sc a0 a1 h) (fun w2 h1 => zo_v h1 a0 10 (zm_oursNow sc a0 h1) (fun v6 h5 => some (v6, h5)))
set_option maxRecDepth 4000 in
theorem zm_oursOf_ok (sc : zX) (d : Nat) (hd : 5 ≤ d) {a0 : Nat} {a1 : Int32} {h : zH} {ro_ : Int32} {ho_ : zH} (hf : zm_oursOf sc a0 a1 h = some (ro_, ho_)) : zq_wm sc d 202 [.ref a0, .int a1] h (some (.int ro_), ho_) := by
  unfold zm_oursOf at hf
  obtain ⟨d, rfl⟩ : ∃ d', d = d' + 1 := ⟨d - 1, by omega⟩
  have hd : 4 ≤ d := by omega
  show zq_wp sc (d + 1) 202 0 [some (.ref a0), some (.int a1)] [] h _
  refine zq_wg 2 (pc' := 2) (lv' := [some (.ref a0), some (.int a1)]) (st' := [.int a1, .ref a0]) (h' := h) rfl ?_
  obtain ⟨e4, w2, h1, e3, hf⟩ := zo_v_s hf
  refine zr_cv zq_m189 [.int a1] [] rfl rfl rfl rfl rfl (Nat.le_of_ble_eq_true rfl) (Nat.le_of_ble_eq_true rfl) e4 (zm_laysHeld_ok sc d (by omega) e3) ?_
  refine zq_wg 0 (pc' := 5) (lv' := [some (.ref a0), some (.int a1)]) (st' := []) (h' := h1) rfl ?_
  refine zq_wg 1 (pc' := 6) (lv' := [some (.ref a0), some (.int a1)]) (st' := [.ref a0]) (h' := h1) rfl ?_
  obtain ⟨e8, v6, h5, e7, hf⟩ := zo_v_s hf
  refine zr_cv zq_m203 [] [] rfl rfl rfl rfl rfl (Nat.le_of_ble_eq_true rfl) (Nat.le_of_ble_eq_true rfl) e8 (zm_oursNow_ok sc d (by omega) e7) ?_
  refine zq_wg 0 (pc' := 9) (lv' := [some (.ref a0), some (.int a1)]) (st' := [.int v6]) (h' := h5) rfl ?_
  exact zr_ri rfl rfl rfl hf
set_option maxRecDepth 4000 in
def zm_ours (sc : zX) (a0 : Nat) (h : zH) : Option (Int32 × zH) := zo_b (zo_pI h 10 a0 0 (0 : Int32)) (fun h1 => zo_v h1 a0 10 (zm_oursOf sc a0 (0 : Int32) h1) (fun v4 h3 => some (v4, h3)))
set_option maxRecDepth 4000 in
theorem zm_ours_ok (sc : zX) (d : Nat) (hd : 6 ≤ d) {a0 : Nat} {h : zH} {ro_ : Int32} {ho_ : zH} (hf : zm_ours sc a0 h = some (ro_, ho_)) : zq_wm sc d 201 [.ref a0] h (some (.int ro_), ho_) := by
  unfold zm_ours at hf
  obtain ⟨d, rfl⟩ : ∃ d', d = d' + 1 := ⟨d - 1, by omega⟩
  have hd : 5 ≤ d := by omega
  show zq_wp sc (d + 1) 201 0 [some (.ref a0)] [] h _
  refine zq_wg 2 (pc' := 2) (lv' := [some (.ref a0)]) (st' := [.int (0 : Int32), .ref a0]) (h' := h) rfl ?_
  obtain ⟨h1, e2, hf⟩ := zo_b_s hf
  refine zr_pI rfl rfl (by decide) rfl rfl e2 ?_
  refine zq_wg 2 (pc' := 7) (lv' := [some (.ref a0)]) (st' := [.int (0 : Int32), .ref a0]) (h' := h1) rfl ?_
  obtain ⟨e6, v4, h3, e5, hf⟩ := zo_v_s hf
  refine zr_cv zq_m202 [.int (0 : Int32)] [] rfl rfl rfl rfl rfl (Nat.le_of_ble_eq_true rfl) (Nat.le_of_ble_eq_true rfl) e6 (zm_oursOf_ok sc d (by omega) e5) ?_
  refine zq_wg 0 (pc' := 10) (lv' := [some (.ref a0)]) (st' := [.int v4]) (h' := h3) rfl ?_
  exact zr_ri rfl rfl rfl hf
set_option maxRecDepth 4000 in
def zm_copies_l3 (sc : zX) : Nat → Nat → Int32 → Int32 → Int32 → Int32 → zH → Option (Unit × zH)
  | 0, _, _, _, _, _, _ => none
  | n + 1, y1, y2, y3, y4, y5, h6 => if y4 ≤ y5 then (some ((), h6)) else (zo_b (zo_gR h6 10 y1 25) (fun v8 => zo_b (zo_gR h6 10 y1 25) (fun v10 => zo_b (zq_rdI sc h6 v10 (y2 + y5)) (fun v12 => zo_b (zq_wrX 1 h6 v8 (y3 + y5) v12) (fun h14 => zm_copies_l3 sc n y1 y2 y3 y4 (y5 + (1 : Int32)) h14 )))))
set_option maxRecDepth 4000 in
def zm_copies (sc : zX) (a0 : Nat) (a1 : Int32) (a2 : Int32) (a3 : Int32) (h : zH) : Option (Unit × zH) := zm_copies_l3 sc zo_F a0 a1 a2 a3 (0 : Int32) h 
set_option maxRecDepth 4000 in
theorem zm_copies_l3_ok (sc : zX) (d : Nat) : ∀ (n : Nat) (y1 : Nat) (y2 : Int32) (y3 : Int32) (y4 : Int32) (y5 : Int32) (h6 : zH) (ro_ : Unit) (ho_ : zH),  zm_copies_l3 sc n y1 y2 y3 y4 y5 h6  = some (ro_, ho_) → zq_wp sc d 206 3 [some (.ref y1), some (.int y2), some (.int y3), some (.int y4), some (.int y5)] [] h6 (none, ho_) := by
  intro n
  induction n with
  | zero => intro y1 y2 y3 y4 y5 h6 ro_ ho_ hf; cases hf
  | succ n ih =>
    intro y1 y2 y3 y4 y5 h6 ro_ ho_ hf
    refine zq_wg 2 (pc' := 6) (lv' := [some (.ref y1), some (.int y2), some (.int y3), some (.int y4), some (.int y5)]) (st' := [.int y4, .int y5]) (h' := h6) rfl ?_
    refine zr_if (y4 ≤ y5) 33 9 (st' := []) rfl rfl (fun b7 => ?_) (fun b7 => ?_)
    · have hf := zo_t hf b7
      exact zr_rv rfl rfl hf
    · have hf := zo_f hf b7
      refine zq_wg 1 (pc' := 10) (lv' := [some (.ref y1), some (.int y2), some (.int y3), some (.int y4), some (.int y5)]) (st' := [.ref y1]) (h' := h6) rfl ?_
      obtain ⟨v8, e9, hf⟩ := zo_b_s hf
      refine zr_gR rfl rfl (by decide) rfl e9 ?_
      refine zq_wg 4 (pc' := 18) (lv' := [some (.ref y1), some (.int y2), some (.int y3), some (.int y4), some (.int y5)]) (st' := [.ref y1, .int (y3 + y5), .ref v8]) (h' := h6) rfl ?_
      obtain ⟨v10, e11, hf⟩ := zo_b_s hf
      refine zr_gR rfl rfl (by decide) rfl e11 ?_
      refine zq_wg 3 (pc' := 25) (lv' := [some (.ref y1), some (.int y2), some (.int y3), some (.int y4), some (.int y5)]) (st' := [.int (y2 + y5), .ref v10, .int (y3 + y5), .ref v8]) (h' := h6) rfl ?_
      obtain ⟨v12, e13, hf⟩ := zo_b_s hf
      refine zr_iald rfl e13 ?_
      obtain ⟨h14, e15, hf⟩ := zo_b_s hf
      refine zr_iast rfl e15 ?_
      refine zq_wg 2 (pc' := 3) (lv' := [some (.ref y1), some (.int y2), some (.int y3), some (.int y4), some (.int (y5 + (1 : Int32)))]) (st' := []) (h' := h14) rfl ?_
      exact ih y1 y2 y3 y4 (y5 + (1 : Int32)) h14 _ _ hf
set_option maxRecDepth 4000 in
theorem zm_copies_ok (sc : zX) (d : Nat) (hd : 0 ≤ d) {a0 : Nat} {a1 : Int32} {a2 : Int32} {a3 : Int32} {h : zH} {ro_ : Unit} {ho_ : zH} (hf : zm_copies sc a0 a1 a2 a3 h = some (ro_, ho_)) : zq_wm sc d 206 [.ref a0, .int a1, .int a2, .int a3] h (none, ho_) := by
  unfold zm_copies at hf
  show zq_wp sc d 206 0 [some (.ref a0), some (.int a1), some (.int a2), some (.int a3), none] [] h _
  refine zq_wg 2 (pc' := 3) (lv' := [some (.ref a0), some (.int a1), some (.int a2), some (.int a3), some (.int (0 : Int32))]) (st' := []) (h' := h) rfl ?_
  refine zm_copies_l3_ok sc d zo_F a0 a1 a2 a3 (0 : Int32) h _ _ hf
set_option maxRecDepth 4000 in
def zm_keeps_l11 (sc : zX) : Nat → Nat → Int32 → zH → (Nat → zH → Option (Unit × zH)) → Option (Unit × zH)
  | 0, _, _, _, _ => none
  | n + 1, y16, y17, h18, k43 => if (16 : Int32) ≤ y17 then (k43 y16 h18) else (zo_v h18 y16 10 (zm_copies sc y16 ((40 : Int32) * ((5 : Int32) + y17)) ((40 : Int32) * (((5 : Int32) + y17) - (1 : Int32))) (16 : Int32) h18) (fun w21 h20 => zm_keeps_l11 sc n y16 (y17 + (1 : Int32)) h20 k43))
set_option maxRecDepth 4000 in
def zm_keeps (sc : zX) (a0 : Nat) (h : zH) : Option (Unit × zH) := zo_b (zo_gI h 10 a0 26) (fun v1 => zo_l (fun (x3 : Nat) (h4 : zH) => zo_b (zo_gI h4 10 x3 26) (fun v5 => zo_v h4 x3 10 (zm_copies sc x3 (0 : Int32) ((40 : Int32) * ((5 : Int32) + v5)) (16 : Int32) h4) (fun w8 h7 => zo_b (zo_gI h7 10 x3 26) (fun v11 => zo_b (zo_pI h7 10 x3 26 (v11 + (1 : Int32))) (fun h13 => some ((), h13)))))) (fun j53_4 => if v1 = (16 : Int32) then (zm_keeps_l11 sc zo_F a0 (1 : Int32) h (fun (x24 : Nat) (h25 : zH) => zo_b (zo_gI h25 10 x24 26) (fun v26 => zo_b (zo_pI h25 10 x24 26 (v26 - (1 : Int32))) (fun h28 => j53_4 x24 h28)))) else (j53_4 a0 h)))
set_option maxRecDepth 4000 in
theorem zm_keeps_l11_ok (sc : zX) (d : Nat) (hd : 0 ≤ d) : ∀ (n : Nat) (y16 : Nat) (y17 : Int32) (h18 : zH) (k43 : Nat → zH → Option (Unit × zH)) (ro_ : Unit) (ho_ : zH), (∀ (z0 : Nat) (hz : zH), k43 z0 hz = some (ro_, ho_) → zq_wp sc (d + 1) 205 43 [some (.ref z0), none] [] hz (none, ho_)) → zm_keeps_l11 sc n y16 y17 h18 k43 = some (ro_, ho_) → zq_wp sc (d + 1) 205 11 [some (.ref y16), some (.int y17)] [] h18 (none, ho_) := by
  intro n
  induction n with
  | zero => intro y16 y17 h18 k43 ro_ ho_ hk43 hf; cases hf
  | succ n ih =>
    intro y16 y17 h18 k43 ro_ ho_ hk43 hf
    refine zq_wg 2 (pc' := 14) (lv' := [some (.ref y16), some (.int y17)]) (st' := [.int (16 : Int32), .int y17]) (h' := h18) rfl ?_
    refine zr_if ((16 : Int32) ≤ y17) 43 17 (st' := []) rfl rfl (fun b19 => ?_) (fun b19 => ?_)
    · have hf := zo_t hf b19
      refine zq_fg [some (.ref y16), none] (zq_lvle_s (zq_lvle_n zq_lvle_nil)) ?_
      exact hk43 y16 h18 hf
    · have hf := zo_f hf b19
      refine zq_wg 14 (pc' := 34) (lv' := [some (.ref y16), some (.int y17)]) (st' := [.int (16 : Int32), .int ((40 : Int32) * (((5 : Int32) + y17) - (1 : Int32))), .int ((40 : Int32) * ((5 : Int32) + y17)), .ref y16]) (h' := h18) rfl ?_
      obtain ⟨e23, w21, h20, e22, hf⟩ := zo_v_s hf
      refine zr_cv zq_m206 [.int ((40 : Int32) * ((5 : Int32) + y17)), .int ((40 : Int32) * (((5 : Int32) + y17) - (1 : Int32))), .int (16 : Int32)] [] rfl rfl rfl rfl rfl (Nat.le_of_ble_eq_true rfl) (Nat.le_of_ble_eq_true rfl) e23 (zm_copies_ok sc d (by omega) e22) ?_
      refine zq_wg 0 (pc' := 37) (lv' := [some (.ref y16), some (.int y17)]) (st' := []) (h' := h20) rfl ?_
      refine zq_wg 2 (pc' := 11) (lv' := [some (.ref y16), some (.int (y17 + (1 : Int32)))]) (st' := []) (h' := h20) rfl ?_
      exact ih y16 (y17 + (1 : Int32)) h20 _ _ _ hk43 hf
set_option maxRecDepth 4000 in
theorem zm_keeps_ok (sc : zX) (d : Nat) (hd : 1 ≤ d) {a0 : Nat} {h : zH} {ro_ : Unit} {ho_ : zH} (hf : zm_keeps sc a0 h = some (ro_, ho_)) : zq_wm sc d 205 [.ref a0] h (none, ho_) := by
  unfold zm_keeps at hf
  obtain ⟨d, rfl⟩ : ∃ d', d = d' + 1 := ⟨d - 1, by omega⟩
  have hd : 0 ≤ d := by omega
  show zq_wp sc (d + 1) 205 0 [some (.ref a0), none] [] h _
  refine zq_wg 1 (pc' := 1) (lv' := [some (.ref a0), none]) (st' := [.ref a0]) (h' := h) rfl ?_
  obtain ⟨v1, e2, hf⟩ := zo_b_s hf
  refine zr_gI rfl rfl (by decide) rfl e2 ?_
  refine zq_wg 1 (pc' := 6) (lv' := [some (.ref a0), none]) (st' := [.int (16 : Int32), .int v1]) (h' := h) rfl ?_
  obtain ⟨j53_4, hjj53_4, hf⟩ := zo_lj hf
  have kj53_4 : ∀ (x3 : Nat) (h4 : zH), j53_4 x3 h4 = some (ro_, ho_) → zq_wp sc (d + 1) 205 53 [some (.ref x3), none] [] h4 (none, ho_) := by
    intro x3 h4 hf
    rw [hjj53_4] at hf
    refine zq_wg 5 (pc' := 59) (lv' := [some (.ref x3), none]) (st' := [.ref x3, .int (5 : Int32), .int (40 : Int32), .int (0 : Int32), .ref x3]) (h' := h4) rfl ?_
    obtain ⟨v5, e6, hf⟩ := zo_b_s hf
    refine zr_gI rfl rfl (by decide) rfl e6 ?_
    refine zq_wg 3 (pc' := 66) (lv' := [some (.ref x3), none]) (st' := [.int (16 : Int32), .int ((40 : Int32) * ((5 : Int32) + v5)), .int (0 : Int32), .ref x3]) (h' := h4) rfl ?_
    obtain ⟨e10, w8, h7, e9, hf⟩ := zo_v_s hf
    refine zr_cv zq_m206 [.int (0 : Int32), .int ((40 : Int32) * ((5 : Int32) + v5)), .int (16 : Int32)] [] rfl rfl rfl rfl rfl (Nat.le_of_ble_eq_true rfl) (Nat.le_of_ble_eq_true rfl) e10 (zm_copies_ok sc d (by omega) e9) ?_
    refine zq_wg 0 (pc' := 69) (lv' := [some (.ref x3), none]) (st' := []) (h' := h7) rfl ?_
    refine zq_wg 2 (pc' := 71) (lv' := [some (.ref x3), none]) (st' := [.ref x3, .ref x3]) (h' := h7) rfl ?_
    obtain ⟨v11, e12, hf⟩ := zo_b_s hf
    refine zr_gI rfl rfl (by decide) rfl e12 ?_
    refine zq_wg 2 (pc' := 76) (lv' := [some (.ref x3), none]) (st' := [.int (v11 + (1 : Int32)), .ref x3]) (h' := h7) rfl ?_
    obtain ⟨h13, e14, hf⟩ := zo_b_s hf
    refine zr_pI rfl rfl (by decide) rfl rfl e14 ?_
    exact zr_rv rfl rfl hf
  refine zr_if (v1 = (16 : Int32)) 9 53 (st' := []) rfl rfl (fun b15 => ?_) (fun b15 => ?_)
  · have hf := zo_t hf b15
    refine zq_wg 2 (pc' := 11) (lv' := [some (.ref a0), some (.int (1 : Int32))]) (st' := []) (h' := h) rfl ?_
    refine zm_keeps_l11_ok sc d hd zo_F a0 (1 : Int32) h _ _ _ ?_ hf
    · intro x24 h25 hf
      refine zq_wg 2 (pc' := 45) (lv' := [some (.ref x24), none]) (st' := [.ref x24, .ref x24]) (h' := h25) rfl ?_
      obtain ⟨v26, e27, hf⟩ := zo_b_s hf
      refine zr_gI rfl rfl (by decide) rfl e27 ?_
      refine zq_wg 2 (pc' := 50) (lv' := [some (.ref x24), none]) (st' := [.int (v26 - (1 : Int32)), .ref x24]) (h' := h25) rfl ?_
      obtain ⟨h28, e29, hf⟩ := zo_b_s hf
      refine zr_pI rfl rfl (by decide) rfl rfl e29 ?_
      exact kj53_4 x24 h28 hf
  · have hf := zo_f hf b15
    exact kj53_4 a0 h hf
set_option maxRecDepth 4000 in
def zm_drawBelow (sc : zX) (a0 : Nat) (a1 : Int32) (h : zH) : Option (Int32 × zH) := zo_b (zo_gL h 10 a0 30) (fun v1 => zo_b (zo_rmL ((v1 * (1103515245 : Int64)) + (12345 : Int64)) (2147483648 : Int64)) (fun v3 => zo_b (zo_pL h 10 a0 30 v3) (fun h5 => zo_b (zo_gL h5 10 a0 30) (fun v7 => zo_b (zo_dvL v7 (65536 : Int64)) (fun v9 => zo_b (zo_rmL v9 a1.toInt64) (fun v11 => some (v11.toInt32, h5)))))))
set_option maxRecDepth 4000 in
theorem zm_drawBelow_ok (sc : zX) (d : Nat) (hd : 0 ≤ d) {a0 : Nat} {a1 : Int32} {h : zH} {ro_ : Int32} {ho_ : zH} (hf : zm_drawBelow sc a0 a1 h = some (ro_, ho_)) : zq_wm sc d 208 [.ref a0, .int a1] h (some (.int ro_), ho_) := by
  unfold zm_drawBelow at hf
  show zq_wp sc d 208 0 [some (.ref a0), some (.int a1)] [] h _
  refine zq_wg 2 (pc' := 2) (lv' := [some (.ref a0), some (.int a1)]) (st' := [.ref a0, .ref a0]) (h' := h) rfl ?_
  obtain ⟨v1, e2, hf⟩ := zo_b_s hf
  refine zr_gL rfl rfl (by decide) rfl e2 ?_
  refine zq_wg 5 (pc' := 16) (lv' := [some (.ref a0), some (.int a1)]) (st' := [.long (2147483648 : Int64), .long ((v1 * (1103515245 : Int64)) + (12345 : Int64)), .ref a0]) (h' := h) rfl ?_
  obtain ⟨v3, e4, hf⟩ := zo_b_s hf
  refine zr_lrem rfl e4 ?_
  obtain ⟨h5, e6, hf⟩ := zo_b_s hf
  refine zr_pL rfl rfl (by decide) rfl rfl e6 ?_
  refine zq_wg 1 (pc' := 21) (lv' := [some (.ref a0), some (.int a1)]) (st' := [.ref a0]) (h' := h5) rfl ?_
  obtain ⟨v7, e8, hf⟩ := zo_b_s hf
  refine zr_gL rfl rfl (by decide) rfl e8 ?_
  refine zq_wg 1 (pc' := 27) (lv' := [some (.ref a0), some (.int a1)]) (st' := [.long (65536 : Int64), .long v7]) (h' := h5) rfl ?_
  obtain ⟨v9, e10, hf⟩ := zo_b_s hf
  refine zr_ldiv rfl e10 ?_
  refine zq_wg 2 (pc' := 30) (lv' := [some (.ref a0), some (.int a1)]) (st' := [.long a1.toInt64, .long v9]) (h' := h5) rfl ?_
  obtain ⟨v11, e12, hf⟩ := zo_b_s hf
  refine zr_lrem rfl e12 ?_
  refine zq_wg 1 (pc' := 32) (lv' := [some (.ref a0), some (.int a1)]) (st' := [.int v11.toInt32]) (h' := h5) rfl ?_
  exact zr_ri rfl rfl rfl hf
set_option maxRecDepth 4000 in
def zm_draws_l2 (sc : zX) : Nat → Nat → Int32 → Int32 → zH → (Nat → Int32 → zH → Option (Unit × zH)) → Option (Unit × zH)
  | 0, _, _, _, _, _ => none
  | n + 1, y1, y2, y3, h4, k23 => zo_v h4 y1 10 (zm_men sc y1 h4) (fun v6 h5 => if v6 ≤ y3 then (k23 y1 y2 h5) else (zo_b (zo_gR h5 10 y1 31) (fun v10 => zo_b (zq_wrX 1 h5 v10 y3 y3) (fun h12 => zm_draws_l2 sc n y1 y2 (y3 + (1 : Int32)) h12 k23))))
set_option maxRecDepth 4000 in
def zm_draws_l30 (sc : zX) : Nat → Nat → Int32 → Int32 → zH → (Nat → Int32 → zH → Option (Unit × zH)) → Option (Unit × zH)
  | 0, _, _, _, _, _ => none
  | n + 1, y21, y22, y23, h24, k76 => if y23 ≤ 0 then (k76 y21 y22 h24) else (zo_v h24 y21 10 (zm_drawBelow sc y21 (y23 + (1 : Int32)) h24) (fun v27 h26 => zo_b (zo_gR h26 10 y21 31) (fun v30 => zo_b (zq_rdI sc h26 v30 y23) (fun v32 => zo_b (zo_gR h26 10 y21 31) (fun v34 => zo_b (zo_gR h26 10 y21 31) (fun v36 => zo_b (zq_rdI sc h26 v36 v27) (fun v38 => zo_b (zq_wrX 1 h26 v34 y23 v38) (fun h40 => zo_b (zo_gR h40 10 y21 31) (fun v42 => zo_b (zq_wrX 1 h40 v42 v27 v32) (fun h44 => zm_draws_l30 sc n y21 y22 (y23 + (-1 : Int32)) h44 k76))))))))))
set_option maxRecDepth 4000 in
def zm_draws_l78 (sc : zX) : Nat → Nat → Int32 → Int32 → zH → (Nat → Int32 → zH → Option (Unit × zH)) → Option (Unit × zH)
  | 0, _, _, _, _, _ => none
  | n + 1, y49, y50, y51, h52, k126 => if (6 : Int32) ≤ y51 then (k126 y49 y50 h52) else (zo_b (zo_gR h52 10 y49 25) (fun v54 => zo_v h52 y49 10 (zm_posts sc y49 h52) (fun v57 h56 => zo_l (fun (x60 : Nat) (x61 : Int32) (x62 : Int32) (x63 : Nat) (x64 : Int32) (x65 : Int32) (h66 : zH) => zo_b (zq_wrX 1 h66 x63 x64 x65) (fun h67 => zm_draws_l78 sc n x60 x61 (x62 + (1 : Int32)) h67 k126)) (fun j119_66 => zo_l (fun (x69 : Nat) (x70 : Int32) (x71 : Int32) (x72 : Nat) (x73 : Int32) (h74 : zH) => j119_66 x69 x70 x71 x72 x73 (-1 : Int32) h74) (fun j118_74 => if v57 ≤ y51 then (j118_74 y49 y50 y51 v54 ((y50 + (4 : Int32)) + y51) h56) else (zo_v h56 y49 10 (zm_men sc y49 h56) (fun v77 h76 => if v77 ≤ y51 then (j118_74 y49 y50 y51 v54 ((y50 + (4 : Int32)) + y51) h76) else (zo_b (zo_gR h76 10 y49 31) (fun v81 => zo_b (zq_rdI sc h76 v81 y51) (fun v83 => j119_66 y49 y50 y51 v54 ((y50 + (4 : Int32)) + y51) v83 h76))))))))))
set_option maxRecDepth 4000 in
def zm_draws (sc : zX) (a0 : Nat) (a1 : Int32) (h : zH) : Option (Unit × zH) := zm_draws_l2 sc zo_F a0 a1 (0 : Int32) h (fun (x14 : Nat) (x15 : Int32) (h16 : zH) => zo_v h16 x14 10 (zm_men sc x14 h16) (fun v18 h17 => zm_draws_l30 sc zo_F x14 x15 (v18 - (1 : Int32)) h17 (fun (x46 : Nat) (x47 : Int32) (h48 : zH) => zm_draws_l78 sc zo_F x46 x47 (0 : Int32) h48 (fun (x85 : Nat) (x86 : Int32) (h87 : zH) => zo_b (zo_gR h87 10 x85 25) (fun v88 => zo_b (zo_gR h87 10 x85 25) (fun v90 => zo_b (zq_rdI sc h87 v90 (x86 + (0 : Int32))) (fun v92 => zo_b (zq_wrX 1 h87 v88 (x86 + (3 : Int32)) v92) (fun h94 => some ((), h94)))))))))
set_option maxRecDepth 4000 in
theorem zm_draws_l2_ok (sc : zX) (d : Nat) (hd : 0 ≤ d) : ∀ (n : Nat) (y1 : Nat) (y2 : Int32) (y3 : Int32) (h4 : zH) (k23 : Nat → Int32 → zH → Option (Unit × zH)) (ro_ : Unit) (ho_ : zH), (∀ (z0 : Nat) (z1 : Int32) (hz : zH), k23 z0 z1 hz = some (ro_, ho_) → zq_wp sc (d + 1) 207 23 [some (.ref z0), some (.int z1), none, none, none] [] hz (none, ho_)) → zm_draws_l2 sc n y1 y2 y3 h4 k23 = some (ro_, ho_) → zq_wp sc (d + 1) 207 2 [some (.ref y1), some (.int y2), some (.int y3), none, none] [] h4 (none, ho_) := by
  intro n
  induction n with
  | zero => intro y1 y2 y3 h4 k23 ro_ ho_ hk23 hf; cases hf
  | succ n ih =>
    intro y1 y2 y3 h4 k23 ro_ ho_ hk23 hf
    refine zq_wg 2 (pc' := 4) (lv' := [some (.ref y1), some (.int y2), some (.int y3), none, none]) (st' := [.ref y1, .int y3]) (h' := h4) rfl ?_
    obtain ⟨e8, v6, h5, e7, hf⟩ := zo_v_s hf
    refine zr_cv zq_m152 [] [.int y3] rfl rfl rfl rfl rfl (Nat.le_of_ble_eq_true rfl) (Nat.le_of_ble_eq_true rfl) e8 (zm_men_ok sc d (by omega) e7) ?_
    refine zq_wg 0 (pc' := 7) (lv' := [some (.ref y1), some (.int y2), some (.int y3), none, none]) (st' := [.int v6, .int y3]) (h' := h5) rfl ?_
    refine zr_if (v6 ≤ y3) 23 10 (st' := []) rfl rfl (fun b9 => ?_) (fun b9 => ?_)
    · have hf := zo_t hf b9
      refine zq_fg [some (.ref y1), some (.int y2), none, none, none] (zq_lvle_s (zq_lvle_s (zq_lvle_n (zq_lvle_s (zq_lvle_s zq_lvle_nil))))) ?_
      exact hk23 y1 y2 h5 hf
    · have hf := zo_f hf b9
      refine zq_wg 1 (pc' := 11) (lv' := [some (.ref y1), some (.int y2), some (.int y3), none, none]) (st' := [.ref y1]) (h' := h5) rfl ?_
      obtain ⟨v10, e11, hf⟩ := zo_b_s hf
      refine zr_gR rfl rfl (by decide) rfl e11 ?_
      refine zq_wg 2 (pc' := 16) (lv' := [some (.ref y1), some (.int y2), some (.int y3), none, none]) (st' := [.int y3, .int y3, .ref v10]) (h' := h5) rfl ?_
      obtain ⟨h12, e13, hf⟩ := zo_b_s hf
      refine zr_iast rfl e13 ?_
      refine zq_wg 2 (pc' := 2) (lv' := [some (.ref y1), some (.int y2), some (.int (y3 + (1 : Int32))), none, none]) (st' := []) (h' := h12) rfl ?_
      exact ih y1 y2 (y3 + (1 : Int32)) h12 _ _ _ hk23 hf
set_option maxRecDepth 4000 in
theorem zm_draws_l30_ok (sc : zX) (d : Nat) (hd : 0 ≤ d) : ∀ (n : Nat) (y21 : Nat) (y22 : Int32) (y23 : Int32) (h24 : zH) (k76 : Nat → Int32 → zH → Option (Unit × zH)) (ro_ : Unit) (ho_ : zH), (∀ (z0 : Nat) (z1 : Int32) (hz : zH), k76 z0 z1 hz = some (ro_, ho_) → zq_wp sc (d + 1) 207 76 [some (.ref z0), some (.int z1), none, none, none] [] hz (none, ho_)) → zm_draws_l30 sc n y21 y22 y23 h24 k76 = some (ro_, ho_) → zq_wp sc (d + 1) 207 30 [some (.ref y21), some (.int y22), some (.int y23), none, none] [] h24 (none, ho_) := by
  intro n
  induction n with
  | zero => intro y21 y22 y23 h24 k76 ro_ ho_ hk76 hf; cases hf
  | succ n ih =>
    intro y21 y22 y23 h24 k76 ro_ ho_ hk76 hf
    refine zq_wg 1 (pc' := 31) (lv' := [some (.ref y21), some (.int y22), some (.int y23), none, none]) (st' := [.int y23]) (h' := h24) rfl ?_
    refine zr_if (y23 ≤ 0) 76 34 (st' := []) rfl rfl (fun b25 => ?_) (fun b25 => ?_)
    · have hf := zo_t hf b25
      refine zq_fg [some (.ref y21), some (.int y22), none, none, none] (zq_lvle_s (zq_lvle_s (zq_lvle_n (zq_lvle_s (zq_lvle_s zq_lvle_nil))))) ?_
      exact hk76 y21 y22 h24 hf
    · have hf := zo_f hf b25
      refine zq_wg 4 (pc' := 38) (lv' := [some (.ref y21), some (.int y22), some (.int y23), none, none]) (st' := [.int (y23 + (1 : Int32)), .ref y21]) (h' := h24) rfl ?_
      obtain ⟨e29, v27, h26, e28, hf⟩ := zo_v_s hf
      refine zr_cv zq_m208 [.int (y23 + (1 : Int32))] [] rfl rfl rfl rfl rfl (Nat.le_of_ble_eq_true rfl) (Nat.le_of_ble_eq_true rfl) e29 (zm_drawBelow_ok sc d (by omega) e28) ?_
      refine zq_wg 0 (pc' := 41) (lv' := [some (.ref y21), some (.int y22), some (.int y23), none, none]) (st' := [.int v27]) (h' := h26) rfl ?_
      refine zq_wg 2 (pc' := 43) (lv' := [some (.ref y21), some (.int y22), some (.int y23), some (.int v27), none]) (st' := [.ref y21]) (h' := h26) rfl ?_
      obtain ⟨v30, e31, hf⟩ := zo_b_s hf
      refine zr_gR rfl rfl (by decide) rfl e31 ?_
      refine zq_wg 1 (pc' := 47) (lv' := [some (.ref y21), some (.int y22), some (.int y23), some (.int v27), none]) (st' := [.int y23, .ref v30]) (h' := h26) rfl ?_
      obtain ⟨v32, e33, hf⟩ := zo_b_s hf
      refine zr_iald rfl e33 ?_
      refine zq_wg 2 (pc' := 51) (lv' := [some (.ref y21), some (.int y22), some (.int y23), some (.int v27), some (.int v32)]) (st' := [.ref y21]) (h' := h26) rfl ?_
      obtain ⟨v34, e35, hf⟩ := zo_b_s hf
      refine zr_gR rfl rfl (by decide) rfl e35 ?_
      refine zq_wg 2 (pc' := 56) (lv' := [some (.ref y21), some (.int y22), some (.int y23), some (.int v27), some (.int v32)]) (st' := [.ref y21, .int y23, .ref v34]) (h' := h26) rfl ?_
      obtain ⟨v36, e37, hf⟩ := zo_b_s hf
      refine zr_gR rfl rfl (by decide) rfl e37 ?_
      refine zq_wg 1 (pc' := 60) (lv' := [some (.ref y21), some (.int y22), some (.int y23), some (.int v27), some (.int v32)]) (st' := [.int v27, .ref v36, .int y23, .ref v34]) (h' := h26) rfl ?_
      obtain ⟨v38, e39, hf⟩ := zo_b_s hf
      refine zr_iald rfl e39 ?_
      obtain ⟨h40, e41, hf⟩ := zo_b_s hf
      refine zr_iast rfl e41 ?_
      refine zq_wg 1 (pc' := 63) (lv' := [some (.ref y21), some (.int y22), some (.int y23), some (.int v27), some (.int v32)]) (st' := [.ref y21]) (h' := h40) rfl ?_
      obtain ⟨v42, e43, hf⟩ := zo_b_s hf
      refine zr_gR rfl rfl (by decide) rfl e43 ?_
      refine zq_wg 2 (pc' := 69) (lv' := [some (.ref y21), some (.int y22), some (.int y23), some (.int v27), some (.int v32)]) (st' := [.int v32, .int v27, .ref v42]) (h' := h40) rfl ?_
      obtain ⟨h44, e45, hf⟩ := zo_b_s hf
      refine zr_iast rfl e45 ?_
      refine zq_wg 2 (pc' := 30) (lv' := [some (.ref y21), some (.int y22), some (.int (y23 + (-1 : Int32))), some (.int v27), some (.int v32)]) (st' := []) (h' := h44) rfl ?_
      refine zq_fg [some (.ref y21), some (.int y22), some (.int (y23 + (-1 : Int32))), none, none] (zq_lvle_s (zq_lvle_s (zq_lvle_s (zq_lvle_n (zq_lvle_n zq_lvle_nil))))) ?_
      exact ih y21 y22 (y23 + (-1 : Int32)) h44 _ _ _ hk76 hf
set_option maxRecDepth 4000 in
theorem zm_draws_l78_ok (sc : zX) (d : Nat) (hd : 0 ≤ d) : ∀ (n : Nat) (y49 : Nat) (y50 : Int32) (y51 : Int32) (h52 : zH) (k126 : Nat → Int32 → zH → Option (Unit × zH)) (ro_ : Unit) (ho_ : zH), (∀ (z0 : Nat) (z1 : Int32) (hz : zH), k126 z0 z1 hz = some (ro_, ho_) → zq_wp sc (d + 1) 207 126 [some (.ref z0), some (.int z1), none, none, none] [] hz (none, ho_)) → zm_draws_l78 sc n y49 y50 y51 h52 k126 = some (ro_, ho_) → zq_wp sc (d + 1) 207 78 [some (.ref y49), some (.int y50), some (.int y51), none, none] [] h52 (none, ho_) := by
  intro n
  induction n with
  | zero => intro y49 y50 y51 h52 k126 ro_ ho_ hk126 hf; cases hf
  | succ n ih =>
    intro y49 y50 y51 h52 k126 ro_ ho_ hk126 hf
    refine zq_wg 2 (pc' := 81) (lv' := [some (.ref y49), some (.int y50), some (.int y51), none, none]) (st' := [.int (6 : Int32), .int y51]) (h' := h52) rfl ?_
    refine zr_if ((6 : Int32) ≤ y51) 126 84 (st' := []) rfl rfl (fun b53 => ?_) (fun b53 => ?_)
    · have hf := zo_t hf b53
      refine zq_fg [some (.ref y49), some (.int y50), none, none, none] (zq_lvle_s (zq_lvle_s (zq_lvle_n (zq_lvle_s (zq_lvle_s zq_lvle_nil))))) ?_
      exact hk126 y49 y50 h52 hf
    · have hf := zo_f hf b53
      refine zq_wg 1 (pc' := 85) (lv' := [some (.ref y49), some (.int y50), some (.int y51), none, none]) (st' := [.ref y49]) (h' := h52) rfl ?_
      obtain ⟨v54, e55, hf⟩ := zo_b_s hf
      refine zr_gR rfl rfl (by decide) rfl e55 ?_
      refine zq_wg 7 (pc' := 95) (lv' := [some (.ref y49), some (.int y50), some (.int y51), none, none]) (st' := [.ref y49, .int y51, .int ((y50 + (4 : Int32)) + y51), .ref v54]) (h' := h52) rfl ?_
      obtain ⟨e59, v57, h56, e58, hf⟩ := zo_v_s hf
      refine zr_cv zq_m151 [] [.int y51, .int ((y50 + (4 : Int32)) + y51), .ref v54] rfl rfl rfl rfl rfl (Nat.le_of_ble_eq_true rfl) (Nat.le_of_ble_eq_true rfl) e59 (zm_posts_ok sc d (by omega) e58) ?_
      refine zq_wg 0 (pc' := 98) (lv' := [some (.ref y49), some (.int y50), some (.int y51), none, none]) (st' := [.int v57, .int y51, .int ((y50 + (4 : Int32)) + y51), .ref v54]) (h' := h56) rfl ?_
      obtain ⟨j119_66, hjj119_66, hf⟩ := zo_lj hf
      have kj119_66 : ∀ (x60 : Nat) (x61 : Int32) (x62 : Int32) (x63 : Nat) (x64 : Int32) (x65 : Int32) (h66 : zH), j119_66 x60 x61 x62 x63 x64 x65 h66 = some (ro_, ho_) → zq_wp sc (d + 1) 207 119 [some (.ref x60), some (.int x61), some (.int x62), none, none] [.int x65, .int x64, .ref x63] h66 (none, ho_) := by
        intro x60 x61 x62 x63 x64 x65 h66 hf
        rw [hjj119_66] at hf
        obtain ⟨h67, e68, hf⟩ := zo_b_s hf
        refine zr_iast rfl e68 ?_
        refine zq_wg 2 (pc' := 78) (lv' := [some (.ref x60), some (.int x61), some (.int (x62 + (1 : Int32))), none, none]) (st' := []) (h' := h67) rfl ?_
        exact ih x60 x61 (x62 + (1 : Int32)) h67 _ _ _ hk126 hf
      obtain ⟨j118_74, hjj118_74, hf⟩ := zo_lj hf
      have kj118_74 : ∀ (x69 : Nat) (x70 : Int32) (x71 : Int32) (x72 : Nat) (x73 : Int32) (h74 : zH), j118_74 x69 x70 x71 x72 x73 h74 = some (ro_, ho_) → zq_wp sc (d + 1) 207 118 [some (.ref x69), some (.int x70), some (.int x71), none, none] [.int x73, .ref x72] h74 (none, ho_) := by
        intro x69 x70 x71 x72 x73 h74 hf
        rw [hjj118_74] at hf
        refine zq_wg 1 (pc' := 119) (lv' := [some (.ref x69), some (.int x70), some (.int x71), none, none]) (st' := [.int (-1 : Int32), .int x73, .ref x72]) (h' := h74) rfl ?_
        exact kj119_66 x69 x70 x71 x72 x73 (-1 : Int32) h74 hf
      refine zr_if (v57 ≤ y51) 118 101 (st' := [.int ((y50 + (4 : Int32)) + y51), .ref v54]) rfl rfl (fun b75 => ?_) (fun b75 => ?_)
      · have hf := zo_t hf b75
        exact kj118_74 y49 y50 y51 v54 ((y50 + (4 : Int32)) + y51) h56 hf
      · have hf := zo_f hf b75
        refine zq_wg 2 (pc' := 103) (lv' := [some (.ref y49), some (.int y50), some (.int y51), none, none]) (st' := [.ref y49, .int y51, .int ((y50 + (4 : Int32)) + y51), .ref v54]) (h' := h56) rfl ?_
        obtain ⟨e79, v77, h76, e78, hf⟩ := zo_v_s hf
        refine zr_cv zq_m152 [] [.int y51, .int ((y50 + (4 : Int32)) + y51), .ref v54] rfl rfl rfl rfl rfl (Nat.le_of_ble_eq_true rfl) (Nat.le_of_ble_eq_true rfl) e79 (zm_men_ok sc d (by omega) e78) ?_
        refine zq_wg 0 (pc' := 106) (lv' := [some (.ref y49), some (.int y50), some (.int y51), none, none]) (st' := [.int v77, .int y51, .int ((y50 + (4 : Int32)) + y51), .ref v54]) (h' := h76) rfl ?_
        refine zr_if (v77 ≤ y51) 118 109 (st' := [.int ((y50 + (4 : Int32)) + y51), .ref v54]) rfl rfl (fun b80 => ?_) (fun b80 => ?_)
        · have hf := zo_t hf b80
          exact kj118_74 y49 y50 y51 v54 ((y50 + (4 : Int32)) + y51) h76 hf
        · have hf := zo_f hf b80
          refine zq_wg 1 (pc' := 110) (lv' := [some (.ref y49), some (.int y50), some (.int y51), none, none]) (st' := [.ref y49, .int ((y50 + (4 : Int32)) + y51), .ref v54]) (h' := h76) rfl ?_
          obtain ⟨v81, e82, hf⟩ := zo_b_s hf
          refine zr_gR rfl rfl (by decide) rfl e82 ?_
          refine zq_wg 1 (pc' := 114) (lv' := [some (.ref y49), some (.int y50), some (.int y51), none, none]) (st' := [.int y51, .ref v81, .int ((y50 + (4 : Int32)) + y51), .ref v54]) (h' := h76) rfl ?_
          obtain ⟨v83, e84, hf⟩ := zo_b_s hf
          refine zr_iald rfl e84 ?_
          refine zq_wg 1 (pc' := 119) (lv' := [some (.ref y49), some (.int y50), some (.int y51), none, none]) (st' := [.int v83, .int ((y50 + (4 : Int32)) + y51), .ref v54]) (h' := h76) rfl ?_
          exact kj119_66 y49 y50 y51 v54 ((y50 + (4 : Int32)) + y51) v83 h76 hf
set_option maxRecDepth 4000 in
theorem zm_draws_ok (sc : zX) (d : Nat) (hd : 1 ≤ d) {a0 : Nat} {a1 : Int32} {h : zH} {ro_ : Unit} {ho_ : zH} (hf : zm_draws sc a0 a1 h = some (ro_, ho_)) : zq_wm sc d 207 [.ref a0, .int a1] h (none, ho_) := by
  unfold zm_draws at hf
  obtain ⟨d, rfl⟩ : ∃ d', d = d' + 1 := ⟨d - 1, by omega⟩
  have hd : 0 ≤ d := by omega
  show zq_wp sc (d + 1) 207 0 [some (.ref a0), some (.int a1), none, none, none] [] h _
  refine zq_wg 2 (pc' := 2) (lv' := [some (.ref a0), some (.int a1), some (.int (0 : Int32)), none, none]) (st' := []) (h' := h) rfl ?_
  refine zm_draws_l2_ok sc d hd zo_F a0 a1 (0 : Int32) h _ _ _ ?_ hf
  · intro x14 x15 h16 hf
    refine zq_wg 1 (pc' := 24) (lv' := [some (.ref x14), some (.int x15), none, none, none]) (st' := [.ref x14]) (h' := h16) rfl ?_
    obtain ⟨e20, v18, h17, e19, hf⟩ := zo_v_s hf
    refine zr_cv zq_m152 [] [] rfl rfl rfl rfl rfl (Nat.le_of_ble_eq_true rfl) (Nat.le_of_ble_eq_true rfl) e20 (zm_men_ok sc d (by omega) e19) ?_
    refine zq_wg 0 (pc' := 27) (lv' := [some (.ref x14), some (.int x15), none, none, none]) (st' := [.int v18]) (h' := h17) rfl ?_
    refine zq_wg 3 (pc' := 30) (lv' := [some (.ref x14), some (.int x15), some (.int (v18 - (1 : Int32))), none, none]) (st' := []) (h' := h17) rfl ?_
    refine zm_draws_l30_ok sc d hd zo_F x14 x15 (v18 - (1 : Int32)) h17 _ _ _ ?_ hf
    · intro x46 x47 h48 hf
      refine zq_wg 2 (pc' := 78) (lv' := [some (.ref x46), some (.int x47), some (.int (0 : Int32)), none, none]) (st' := []) (h' := h48) rfl ?_
      refine zm_draws_l78_ok sc d hd zo_F x46 x47 (0 : Int32) h48 _ _ _ ?_ hf
      · intro x85 x86 h87 hf
        refine zq_wg 1 (pc' := 127) (lv' := [some (.ref x85), some (.int x86), none, none, none]) (st' := [.ref x85]) (h' := h87) rfl ?_
        obtain ⟨v88, e89, hf⟩ := zo_b_s hf
        refine zr_gR rfl rfl (by decide) rfl e89 ?_
        refine zq_wg 4 (pc' := 134) (lv' := [some (.ref x85), some (.int x86), none, none, none]) (st' := [.ref x85, .int (x86 + (3 : Int32)), .ref v88]) (h' := h87) rfl ?_
        obtain ⟨v90, e91, hf⟩ := zo_b_s hf
        refine zr_gR rfl rfl (by decide) rfl e91 ?_
        refine zq_wg 3 (pc' := 140) (lv' := [some (.ref x85), some (.int x86), none, none, none]) (st' := [.int (x86 + (0 : Int32)), .ref v90, .int (x86 + (3 : Int32)), .ref v88]) (h' := h87) rfl ?_
        obtain ⟨v92, e93, hf⟩ := zo_b_s hf
        refine zr_iald rfl e93 ?_
        obtain ⟨h94, e95, hf⟩ := zo_b_s hf
        refine zr_iast rfl e95 ?_
        exact zr_rv rfl rfl hf
