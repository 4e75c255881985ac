/-! laws as told: the reference, parts -/
section ZO
variable {sc : zX} {r : zRr} {N : Nat} {K : List zTo} {q : Bool} {rec : Nat → Nat → Int32 → zH → Option (Unit × zH)} {I : zII} {J : zJJ} {k u : Nat}
theorem zpB_F {F : Nat} (h : zMs I J N K k F) (hF : 1 ≤ F) (y x z : Int32) : zpB sc rec 216 y x z (zG I J r) = some ((), zG I J r) := by
  have e2 := h.2.2.2.1
  have e3 := h.2.2.2.2
  unfold zpB
  rw [gI_216, e2, if_neg (by rw [zn_le (by omega) (by omega)]; omega)]
theorem zpC_j (h : zMs I J N K k 0) {d : Nat} (hd : d ≤ 5) {x z : Int32} (hk : zn 0 ≤ z ∨ (¬ zn 0 ≤ z ∧ ¬ x = zn 0) ∨ (¬ zn 0 ≤ z ∧ x = zn 0 ∧ zis (K.drop k) 40 = true) ∨ (¬ zn 0 ≤ z ∧ x = zn 0 ∧ zis (K.drop k) 40 = false ∧ zws (K.drop k) = some 8)) : zpC sc rec 216 (zn d) x z (zG I J r) = if d = 5 then some ((), zG (zU I 216 8 (zn (zer 5 N (K.drop k)))) J r) else zpB sc rec 216 (zn d) x z (zG I J r) := by
  have hpb := h.plb
  have hw := mwrong_e (sc := sc) (r := r) h 5
  have hF := zpB_F (sc := sc) (r := r) (rec := rec) (h.er (x := 5) (by decide)) (by unfold zer; omega) (zn d) x z
  have es := misSign_e (sc := sc) (r := r) h (c := 40) (by decide)
  have ew := misWord_e (sc := sc) (r := r) h (i := 26) (by decide)
  rw [zsg_27.2.2] at ew
  have tail : (if zn d = (zn 5) then (zo_v (zG I J r) 216 10 (zm_wrong sc 216 (zn 5) (zG I J r)) (fun w83 h82 => zpB sc rec 216 (zn d) x z h82)) else (zpB sc rec 216 (zn d) x z (zG I J r))) = if d = 5 then some ((), zG (zU I 216 8 (zn (zer 5 N (K.drop k)))) J r) else zpB sc rec 216 (zn d) x z (zG I J r) := by
    by_cases c : d = 5
    · rw [if_pos (by rw [c]), if_pos c, zov rfl, zoc hw, hF]
    · rw [if_neg (by rw [zn_eq (by omega) (by omega)]; exact c), if_neg c]
  unfold zpC
  rw [zol, zol]
  rcases hk with c1 | ⟨c1, c2⟩ | ⟨c1, c2, c3⟩ | ⟨c1, c2, c3, c4⟩
  · rw [if_pos c1]
    exact tail
  · rw [if_neg c1, if_neg c2]
    exact tail
  · rw [c3] at es
    rw [if_neg c1, if_pos c2, zov rfl, zoc es, if_neg (by decide)]
    exact tail
  · rw [c3] at es
    rw [decide_eq_true c4] at ew
    rw [if_neg c1, if_pos c2, zov rfl, zoc es, if_pos (show zt false = zn 0 from rfl), zov rfl, zoc ew, if_neg (by decide)]
    exact tail
theorem zpC_0 (h : zMs I J N K k 0) {y x z : Int32} (c1 : ¬ zn 0 ≤ z) (c2 : x = zn 0) (c3 : zis (K.drop k) 40 = false) (c4 : ¬ zws (K.drop k) = some 8) : zpC sc rec 216 y x z (zG I J r) = some ((), zG (zU I 216 8 (zn (zer 1 N (K.drop k)))) J r) := by
  have hw := mwrong_e (sc := sc) (r := r) h 1
  have hF := zpB_F (sc := sc) (r := r) (rec := rec) (h.er (x := 1) (by decide)) (by unfold zer; omega) y x z
  have es := misSign_e (sc := sc) (r := r) h (c := 40) (by decide)
  have ew := misWord_e (sc := sc) (r := r) h (i := 26) (by decide)
  rw [zsg_27.2.2, decide_eq_false c4] at ew
  rw [c3] at es
  unfold zpC
  rw [zol, zol, if_neg c1, if_pos c2, zov rfl, zoc es, if_pos (show zt false = zn 0 from rfl), zov rfl, zoc ew, if_pos (show zt false = zn 0 from rfl), zov rfl, zoc hw, hF]
/-- a plain part -/
theorem zpB_p (hp : zPq2 N K q u I J k) (hk : k < K.length) (c3 : zis (K.drop k) 40 = false) (c4 : ¬ zws (K.drop k) = some 8) {y x z : Int32} {o m : Nat} (hx : (x = zn 1 ∧ o = 1 ∧ zNub (K.drop k) = some m) ∨ (x = zn 0 ∧ o = 2 ∧ ∃ j, m = j ∧ z = zn (j + if q then 4 else 0))) : zML r N K q u (fun _ => zpB sc rec 216 y x z (zG I J r)) I J k (.ok ((K.drop k).tail, [(o, m)])) := by
  have h := hp.1
  have e1 := h.2.2.1
  have e2 := h.2.2.2.1
  have e4 := h.1.2.2.2.1
  have hlen := hp.2.2.1
  have es := mhasSign_e (sc := sc) (r := r) h (c := 40) (by decide)
  rw [c3, if_neg (by decide), Nat.add_zero, zU7 e1] at es
  have ew := mhasWord_e (sc := sc) (r := r) h (i := 26) (by decide)
  rw [zsg_27.2.2, decide_eq_false c4, if_neg (by decide), Nat.add_zero, zU7 e1] at ew
  obtain ⟨av, hav⟩ : ∃ av, av = if o = 1 then zn m else z := ⟨_, rfl⟩
  have ha := emit_e (sc := sc) (J := J) (r := r) hp.2.1 (by omega) (zn o) av
  obtain ⟨I3, hI3⟩ : ∃ I3, I3 = zU (zU (zU I 223 (1100 + u) (zn o)) 224 (1100 + u) av) 216 13 (zn (u + 1)) := ⟨_, rfl⟩
  rw [← hI3] at ha
  obtain ⟨m1, m2, m3, m4, m5⟩ := emit_m hI3
  have h3 := h.em hI3
  have e13 := h3.2.2.1
  refine ⟨zU I3 216 7 (zn (k + 1)), k + 1, ?_, h3.at7 (k + 1) (by omega), by rw [List.tail_drop], by omega, m1.tr zFm.u7, ?_, ?_, fun i hi => ?_⟩
  · (try dsimp only)
    unfold zpB
    rw [gI_216, e2, if_pos (by decide), zov rfl, zoc ew, if_pos (show zt false = zn 0 from rfl), zov rfl, zoc es, if_pos (show zt false = zn 0 from rfl), zol, zol]
    rcases hx with ⟨x1, x2, x3⟩ | ⟨x1, x2, j, x3, x4⟩
    · obtain ⟨g1, g2, g3, g4⟩ := mNm_e h x3
      have e32 : (zl m).toInt32 = zn m := zl_32 (by omega)
      subst x1; subst x2
      have ha' : zm_emit sc 216 (zn 1) (zn m) (zG I J r) = some ((), zG I3 J r) := by
        rw [hav, if_pos rfl] at ha
        exact ha
      rw [if_neg (by decide), if_neg (by decide)]
      simp (disch := first | assumption | omega) only [e1, g4, e32, ↓zoc ha', e13, ↓gI_64, ↓gL_64, ↓pI_64, ↓pL_64, ↓vv_64, ↓gI_65, ↓gL_65, ↓pI_65, ↓pL_65, ↓vv_65, ↓gI_67, ↓gL_67, ↓pI_67, ↓pL_67, ↓vv_67, ↓gI_70, ↓gL_70, ↓pI_70, ↓pL_70, ↓vv_70, ↓gI_73, ↓gL_73, ↓pI_73, ↓pL_73, ↓vv_73, ↓gI_77, ↓gL_77, ↓pI_77, ↓pL_77, ↓vv_77, ↓gI_84, ↓gL_84, ↓pI_84, ↓pL_84, ↓vv_84, ↓gI_90, ↓gL_90, ↓pI_90, ↓pL_90, ↓vv_90, ↓gI_216, ↓gL_216, ↓pI_216, ↓pL_216, ↓vv_216, ↓rd_66, ↓wr_66, ↓ln_66, ↓at_68, ↓pt_68, ↓at_69, ↓pt_69, ↓at_71, ↓pt_71, ↓at_72, ↓pt_72, ↓at_74, ↓pt_74, ↓at_75, ↓pt_75, ↓at_76, ↓pt_76, ↓at_78, ↓pt_78, ↓at_79, ↓pt_79, ↓at_80, ↓pt_80, ↓at_81, ↓pt_81, ↓at_82, ↓pt_82, ↓at_83, ↓pt_83, ↓at_85, ↓pt_85, ↓at_86, ↓pt_86, ↓at_87, ↓pt_87, ↓at_88, ↓pt_88, ↓at_89, ↓pt_89, ↓at_91, ↓pt_91, ↓at_95, ↓pt_95, ↓rd_217, ↓wr_217, ↓ln_217, ↓rd_218, ↓wr_218, ↓ln_218, ↓rd_219, ↓wr_219, ↓ln_219, ↓rd_220, ↓wr_220, ↓ln_220, ↓rd_221, ↓wr_221, ↓ln_221, ↓rd_222, ↓wr_222, ↓ln_222, ↓rd_223, ↓wr_223, ↓ln_223, ↓rd_224, ↓wr_224, ↓ln_224, ↓rd_225, ↓wr_225, ↓ln_225, ↓rd_226, ↓wr_226, ↓ln_226, ↓rd_227, ↓wr_227, ↓ln_227, ↓rd_228, ↓wr_228, ↓ln_228, ↓rd_229, ↓wr_229, ↓ln_229, ↓rd_230, ↓wr_230, ↓ln_230, ↓rd_231, ↓wr_231, ↓ln_231, ↓rd_232, ↓wr_232, ↓ln_232, ↓rd_233, ↓wr_233, ↓ln_233, ↓rd_234, ↓wr_234, ↓ln_234, ↓rd_235, ↓wr_235, ↓ln_235, ↓rd_236, ↓wr_236, ↓ln_236, ↓rd_237, ↓wr_237, ↓ln_237, ↓rd_238, ↓wr_238, ↓ln_238, ↓rd_239, ↓wr_239, ↓ln_239, ↓rd_240, ↓wr_240, ↓ln_240, ↓rd_241, ↓wr_241, ↓ln_241, ↓rd_242, ↓wr_242, ↓ln_242, ↓rd_243, ↓wr_243, ↓ln_243, ↓gR_64_0, ↓gR_64_1, ↓gR_64_2, ↓gR_64_3, ↓gR_64_4, ↓gR_64_5, ↓gR_64_6, ↓gR_64_7, ↓gR_64_8, ↓gR_64_9, ↓gR_64_10, ↓gR_65_0, ↓gR_67_0, ↓gR_67_1, ↓gR_70_0, ↓gR_70_1, ↓gR_73_0, ↓gR_73_1, ↓gR_73_2, ↓gR_77_3, ↓gR_77_4, ↓gR_77_7, ↓gR_77_8, ↓gR_77_9, ↓gR_77_10, ↓gR_84_0, ↓gR_84_1, ↓gR_84_2, ↓gR_84_3, ↓gR_84_4, ↓gR_90_1, ↓gR_216_1, ↓gR_216_4, ↓gR_216_5, ↓gR_216_6, ↓gR_216_9, ↓gR_216_10, ↓gR_216_11, ↓gR_216_12, ↓gR_216_14, ↓gR_216_15, ↓gR_216_16, ↓gR_216_17, ↓gR_216_22, ↓gR_216_23, ↓gR_216_24, ↓gR_216_25, ↓gR_216_27, ↓gR_216_28, ↓gR_216_29, ↓gR_216_31, ↓gR_216_35, ↓gR_216_36, ↓gR_216_37, ↓gR_216_38, ↓gR_216_39, ↓gR_216_43, ↓gR_64_11, ↓gR_64_12, ↓gR_64_13, ↓gR_64_14, ↓gQ_65, ↓gI_A, ↓gL_A, ↓pI_A, ↓pL_A, ↓vv_A, ↓gI_Lw, ↓gL_Lw, ↓pI_Lw, ↓pL_Lw, ↓vv_Lw, ↓gR_A_7, ↓gR_A_8, ↓gR_A_9, ↓gR_A_10, ↓gR_A_11, ↓gR_A_12, ↓gR_A_13, ↓gR_A_14, ↓gR_A_15, ↓gR_A_16, ↓gR_A_17, ↓gR_Lw_0, ↓gR_Lw_1, ↓gR_Lw_2, ↓gR_Lw_3, ↓gR_Lw_4, ↓at_A1, ↓pt_A1, ↓at_A2, ↓pt_A2, ↓at_A3, ↓pt_A3, ↓at_A4, ↓pt_A4, ↓at_A5, ↓pt_A5, ↓at_A6, ↓pt_A6, ↓rd_A7, ↓wr_A7, ↓ln_A7, ↓rd_A8, ↓wr_A8, ↓ln_A8, ↓at_A9, ↓pt_A9, ↓at_A10, ↓pt_A10, ↓at_A12, ↓pt_A12, ↓at_A13, ↓pt_A13, ↓at_A14, ↓pt_A14, ↓at_A15, ↓pt_A15, ↓at_A16, ↓pt_A16, ↓gI_W, ↓gL_W, ↓pI_W, ↓pL_W, ↓vv_W, ↓gR_W_1, ↓gR_W_2, ↓gR_W_3, ↓gR_W_4, ↓at_W1, ↓pt_W1, ↓at_W2, ↓pt_W2, ↓at_W3, ↓pt_W3, ↓at_W4, ↓pt_W4, ↓rdR_92, ↓rdR_93, ↓rdR_94, ↓gI_S, ↓gL_S, ↓pI_S, ↓pL_S, ↓vv_S, ↓gR_S_0, ↓gR_S_1, ↓at_S1, ↓pt_S1, ↓at_S2, ↓pt_S2, ↓gI_N, ↓gL_N, ↓pI_N, ↓pL_N, ↓vv_N, ↓gR_N_0, ↓gR_N_1, ↓gR_N_2, ↓at_N1, ↓pt_N1, ↓at_N2, ↓pt_N2, ↓at_N3, ↓pt_N3, ↓pB_S, ↓pB_S0, ↓pB_S1, ↓pB_770, ↓pB_771, ↓at_6, ↓pt_6, ↓atN, ↓ptN, ↓cS, ↓bS, ↓zol, ↓zrb, ↓zrb0, ↓zrb1, ↓reduceIte, z32_s, z32_n, zb_test, zn_add, zn_mul, zn_addN, zn_sub, zU_ne, zU_eq, zU_at, zV_ne, zV_eq, zV_at, p_le, p_nle, p_lt, p_nlt, p_eq, p_neq, p_eqN, p_leN, p_ltN, p_Nle, p_Nlt, p_Neq, p_zt0, p_zt1, eq_self, Nat.reduceAdd, Nat.reduceMul, Nat.reduceSub, Nat.reduceEqDiff, Nat.reduceLT, Nat.reduceLeDiff, if_true, if_false, Bool.false_eq_true, not_true_eq_false, not_false_eq_true, reduceCtorEq]
    · subst x1; subst x2
      have ha' : zm_emit sc 216 (zn 2) z (zG I J r) = some ((), zG I3 J r) := by
        rw [hav, if_neg (by decide)] at ha
        exact ha
      rw [if_pos rfl, if_pos rfl]
      simp (disch := first | assumption | omega) only [↓zoc ha', e13, ↓gI_64, ↓gL_64, ↓pI_64, ↓pL_64, ↓vv_64, ↓gI_65, ↓gL_65, ↓pI_65, ↓pL_65, ↓vv_65, ↓gI_67, ↓gL_67, ↓pI_67, ↓pL_67, ↓vv_67, ↓gI_70, ↓gL_70, ↓pI_70, ↓pL_70, ↓vv_70, ↓gI_73, ↓gL_73, ↓pI_73, ↓pL_73, ↓vv_73, ↓gI_77, ↓gL_77, ↓pI_77, ↓pL_77, ↓vv_77, ↓gI_84, ↓gL_84, ↓pI_84, ↓pL_84, ↓vv_84, ↓gI_90, ↓gL_90, ↓pI_90, ↓pL_90, ↓vv_90, ↓gI_216, ↓gL_216, ↓pI_216, ↓pL_216, ↓vv_216, ↓rd_66, ↓wr_66, ↓ln_66, ↓at_68, ↓pt_68, ↓at_69, ↓pt_69, ↓at_71, ↓pt_71, ↓at_72, ↓pt_72, ↓at_74, ↓pt_74, ↓at_75, ↓pt_75, ↓at_76, ↓pt_76, ↓at_78, ↓pt_78, ↓at_79, ↓pt_79, ↓at_80, ↓pt_80, ↓at_81, ↓pt_81, ↓at_82, ↓pt_82, ↓at_83, ↓pt_83, ↓at_85, ↓pt_85, ↓at_86, ↓pt_86, ↓at_87, ↓pt_87, ↓at_88, ↓pt_88, ↓at_89, ↓pt_89, ↓at_91, ↓pt_91, ↓at_95, ↓pt_95, ↓rd_217, ↓wr_217, ↓ln_217, ↓rd_218, ↓wr_218, ↓ln_218, ↓rd_219, ↓wr_219, ↓ln_219, ↓rd_220, ↓wr_220, ↓ln_220, ↓rd_221, ↓wr_221, ↓ln_221, ↓rd_222, ↓wr_222, ↓ln_222, ↓rd_223, ↓wr_223, ↓ln_223, ↓rd_224, ↓wr_224, ↓ln_224, ↓rd_225, ↓wr_225, ↓ln_225, ↓rd_226, ↓wr_226, ↓ln_226, ↓rd_227, ↓wr_227, ↓ln_227, ↓rd_228, ↓wr_228, ↓ln_228, ↓rd_229, ↓wr_229, ↓ln_229, ↓rd_230, ↓wr_230, ↓ln_230, ↓rd_231, ↓wr_231, ↓ln_231, ↓rd_232, ↓wr_232, ↓ln_232, ↓rd_233, ↓wr_233, ↓ln_233, ↓rd_234, ↓wr_234, ↓ln_234, ↓rd_235, ↓wr_235, ↓ln_235, ↓rd_236, ↓wr_236, ↓ln_236, ↓rd_237, ↓wr_237, ↓ln_237, ↓rd_238, ↓wr_238, ↓ln_238, ↓rd_239, ↓wr_239, ↓ln_239, ↓rd_240, ↓wr_240, ↓ln_240, ↓rd_241, ↓wr_241, ↓ln_241, ↓rd_242, ↓wr_242, ↓ln_242, ↓rd_243, ↓wr_243, ↓ln_243, ↓gR_64_0, ↓gR_64_1, ↓gR_64_2, ↓gR_64_3, ↓gR_64_4, ↓gR_64_5, ↓gR_64_6, ↓gR_64_7, ↓gR_64_8, ↓gR_64_9, ↓gR_64_10, ↓gR_65_0, ↓gR_67_0, ↓gR_67_1, ↓gR_70_0, ↓gR_70_1, ↓gR_73_0, ↓gR_73_1, ↓gR_73_2, ↓gR_77_3, ↓gR_77_4, ↓gR_77_7, ↓gR_77_8, ↓gR_77_9, ↓gR_77_10, ↓gR_84_0, ↓gR_84_1, ↓gR_84_2, ↓gR_84_3, ↓gR_84_4, ↓gR_90_1, ↓gR_216_1, ↓gR_216_4, ↓gR_216_5, ↓gR_216_6, ↓gR_216_9, ↓gR_216_10, ↓gR_216_11, ↓gR_216_12, ↓gR_216_14, ↓gR_216_15, ↓gR_216_16, ↓gR_216_17, ↓gR_216_22, ↓gR_216_23, ↓gR_216_24, ↓gR_216_25, ↓gR_216_27, ↓gR_216_28, ↓gR_216_29, ↓gR_216_31, ↓gR_216_35, ↓gR_216_36, ↓gR_216_37, ↓gR_216_38, ↓gR_216_39, ↓gR_216_43, ↓gR_64_11, ↓gR_64_12, ↓gR_64_13, ↓gR_64_14, ↓gQ_65, ↓gI_A, ↓gL_A, ↓pI_A, ↓pL_A, ↓vv_A, ↓gI_Lw, ↓gL_Lw, ↓pI_Lw, ↓pL_Lw, ↓vv_Lw, ↓gR_A_7, ↓gR_A_8, ↓gR_A_9, ↓gR_A_10, ↓gR_A_11, ↓gR_A_12, ↓gR_A_13, ↓gR_A_14, ↓gR_A_15, ↓gR_A_16, ↓gR_A_17, ↓gR_Lw_0, ↓gR_Lw_1, ↓gR_Lw_2, ↓gR_Lw_3, ↓gR_Lw_4, ↓at_A1, ↓pt_A1, ↓at_A2, ↓pt_A2, ↓at_A3, ↓pt_A3, ↓at_A4, ↓pt_A4, ↓at_A5, ↓pt_A5, ↓at_A6, ↓pt_A6, ↓rd_A7, ↓wr_A7, ↓ln_A7, ↓rd_A8, ↓wr_A8, ↓ln_A8, ↓at_A9, ↓pt_A9, ↓at_A10, ↓pt_A10, ↓at_A12, ↓pt_A12, ↓at_A13, ↓pt_A13, ↓at_A14, ↓pt_A14, ↓at_A15, ↓pt_A15, ↓at_A16, ↓pt_A16, ↓gI_W, ↓gL_W, ↓pI_W, ↓pL_W, ↓vv_W, ↓gR_W_1, ↓gR_W_2, ↓gR_W_3, ↓gR_W_4, ↓at_W1, ↓pt_W1, ↓at_W2, ↓pt_W2, ↓at_W3, ↓pt_W3, ↓at_W4, ↓pt_W4, ↓rdR_92, ↓rdR_93, ↓rdR_94, ↓gI_S, ↓gL_S, ↓pI_S, ↓pL_S, ↓vv_S, ↓gR_S_0, ↓gR_S_1, ↓at_S1, ↓pt_S1, ↓at_S2, ↓pt_S2, ↓gI_N, ↓gL_N, ↓pI_N, ↓pL_N, ↓vv_N, ↓gR_N_0, ↓gR_N_1, ↓gR_N_2, ↓at_N1, ↓pt_N1, ↓at_N2, ↓pt_N2, ↓at_N3, ↓pt_N3, ↓pB_S, ↓pB_S0, ↓pB_S1, ↓pB_770, ↓pB_771, ↓at_6, ↓pt_6, ↓atN, ↓ptN, ↓cS, ↓bS, ↓zol, ↓zrb, ↓zrb0, ↓zrb1, ↓reduceIte, z32_s, z32_n, zb_test, zn_add, zn_mul, zn_addN, zn_sub, zU_ne, zU_eq, zU_at, zV_ne, zV_eq, zV_at, p_le, p_nle, p_lt, p_nlt, p_eq, p_neq, p_eqN, p_leN, p_ltN, p_Nle, p_Nlt, p_Neq, p_zt0, p_zt1, eq_self, Nat.reduceAdd, Nat.reduceMul, Nat.reduceSub, Nat.reduceEqDiff, Nat.reduceLT, Nat.reduceLeDiff, if_true, if_false, Bool.false_eq_true, not_true_eq_false, not_false_eq_true, reduceCtorEq]
  · rw [zU_ne2 (by decide)]; exact m2
  · intro i yy hy
    have hi : i < 1 := (List.getElem?_eq_some_iff.mp hy).1
    have hi0 : i = 0 := by omega
    subst hi0
    have hx2 : (o, m) = yy := Option.some.inj hy
    subst hx2
    rw [zU_ne (by decide), zU_ne (by decide)]
    refine ⟨m4, fun z1 => ?_, fun z1 => ?_⟩
    · show I3 224 (1100 + u) = zn m
      rw [m5, hav, if_pos z1]
    · show I3 224 (1100 + u) = zn (m + if q then 4 else 0)
      have z1' : o = 2 := z1
      rcases hx with ⟨x1, x2, x3⟩ | ⟨x1, x2, j, x3, x4⟩
      · omega
      · rw [m5, hav, if_neg (by omega), x4, x3]
  · rw [zU_ne (by decide), zU_ne (by decide)]
    exact m3 i hi
theorem mpart_e {n d : Nat} (hd : n + d = 5) (h4 : ∀ m, n = m + 1 → zRe r N K q (fun h => rec 4 216 (zn (d + 1)) h) (zpt q N m)) (h0 : ∀ m, n = m + 1 → zRe r N K q (fun h => rec 0 216 (zn (d + 1)) h) (zall q N m)) : zRe r N K q (fun h => zm_takePart_b sc rec 216 (zn d) h) (zpt q N n) := by
  intro u I J k hp
  have h := hp.1
  have hpb := h.plb
  have hlen := hp.2.2.1
  have e1 := h.2.2.1
  have e2 := h.2.2.2.1
  have hC := mpart_c (sc := sc) (r := r) (rec := rec) (y := zn d) hp
  obtain ⟨uu, huu⟩ : ∃ uu, uu = if q then 6 else 5 := ⟨_, rfl⟩
  have hu56 : uu = 5 ∨ uu = 6 := by rw [huu]; cases q <;> simp
  have hft := zft_e (q := q) (L := K.drop k)
  rw [← huu] at hft
  rw [hft] at hC
  have err : ∀ x, 1 ≤ x → x ≤ 5 → ∀ f, f (zG I J r) = some ((), zG (zU I 216 8 (zn (zer x N (K.drop k)))) J r) → zML r N K q u f I J k (.error (zer x N (K.drop k))) := by
    intro x k1 k2 f hf
    exact ⟨by unfold zer; omega, _, k, u, hf, h.er k2, Nat.le_refl _, zFm.u8, by rw [zU_ne2 (by decide)]; exact hp.2.1, Nat.le_refl _⟩
  have lt_of : ∀ {x : Nat}, zpk q (K.drop k) = x → x ≠ 0 → k < K.length := by
    intro x hx hx0
    obtain ⟨t, M, hM⟩ := zpk_c (q := q) (L := K.drop k) (by omega)
    by_cases z : k < K.length
    · exact z
    · rw [List.drop_eq_nil_iff.mpr (by omega)] at hM; cases hM
  have kinds : (zpk q (K.drop k) = 1 ∧ ∃ x, zNub (K.drop k) = some x ∧ zwh (K.drop k) uu = none ∧ ¬ zws (K.drop k) = some 8 ∧ zis (K.drop k) 40 = false) ∨ (zpk q (K.drop k) = 2 ∧ zNub (K.drop k) = none ∧ (∃ j, zwh (K.drop k) uu = some j) ∧ ¬ zws (K.drop k) = some 8 ∧ zis (K.drop k) 40 = false) ∨ (zpk q (K.drop k) = 3 ∧ zNub (K.drop k) = none ∧ zwh (K.drop k) uu = none ∧ zws (K.drop k) = some 8 ∧ zis (K.drop k) 40 = false) ∨ (zpk q (K.drop k) = 4 ∧ zNub (K.drop k) = none ∧ zwh (K.drop k) uu = none ∧ ¬ zws (K.drop k) = some 8 ∧ zis (K.drop k) 40 = true) ∨ (zpk q (K.drop k) = 0 ∧ zNub (K.drop k) = none ∧ zwh (K.drop k) uu = none ∧ ¬ zws (K.drop k) = some 8 ∧ zis (K.drop k) 40 = false) := by
    generalize K.drop k = L
    have nis : ∀ {P : Prop}, (zis L 40 = true → P) → (zis L 40 = false → P) → P := fun a b => by
      cases hI : zis L 40 with
      | true => exact a hI
      | false => exact b hI
    unfold zpk
    rw [← huu]
    cases hN : zNub L with
    | some x =>
      refine Or.inl ⟨rfl, x, rfl, zwh_ws (zNm_ws hN), ?_, ?_⟩
      · rw [zNm_ws hN]; exact fun q => by cases q
      · refine nis (fun z => ?_) id
        rw [(zis_ws z).2] at hN; cases hN
    | none =>
      cases hW : zwh L uu with
      | some j =>
        refine Or.inr (Or.inl ⟨rfl, rfl, ⟨j, rfl⟩, zwh_8 hu56 hW, ?_⟩)
        refine nis (fun z => ?_) id
        rw [zwh_ws (zis_ws z).1] at hW; cases hW
      | none =>
        by_cases h8 : zws L = some 8
        · refine Or.inr (Or.inr (Or.inl ⟨?_, rfl, rfl, h8, ?_⟩))
          · show (if zws L = some 8 then 3 else if zis L 40 then 4 else 0) = 3
            rw [if_pos h8]
          · refine nis (fun z => ?_) id
            rw [(zis_ws z).1] at h8; cases h8
        · cases hI : zis L 40 with
          | true =>
            refine Or.inr (Or.inr (Or.inr (Or.inl ⟨?_, rfl, rfl, h8, rfl⟩)))
            show (if zws L = some 8 then 3 else if true then 4 else 0) = 4
            rw [if_neg h8]; rfl
          | false =>
            refine Or.inr (Or.inr (Or.inr (Or.inr ⟨?_, rfl, rfl, h8, rfl⟩)))
            show (if zws L = some 8 then 3 else if false then 4 else 0) = 0
            rw [if_neg h8]; rfl
  have hd5 : d ≤ 5 := by omega
  have nN : ¬ zn 0 ≤ zN := by decide
  have zero5 : ∀ {x : Nat}, zpk q (K.drop k) = x → x ≠ 0 → zpt q N 0 (K.drop k) = .error (zer 5 N (K.drop k)) := by
    intro x hx hx0
    show (if zpk q (K.drop k) = 0 then (.error (zer 1 N (K.drop k)) : zPR) else .error (zer 5 N (K.drop k))) = _
    rw [if_neg (by omega)]
  rcases kinds with ⟨k1, x, kN, kW, k8, kI⟩ | ⟨k1, kN, ⟨j, kW⟩, k8, kI⟩ | ⟨k1, kN, kW, k8, kI⟩ | ⟨k1, kN, kW, k8, kI⟩ | ⟨k1, kN, kW, k8, kI⟩
  · rw [kN, kW] at hC
    have hC' : zm_takePart_b sc rec 216 (zn d) (zG I J r) = zpC sc rec 216 (zn d) (zn 1) zN (zG I J r) := hC
    rw [zpC_j h hd5 (Or.inr (Or.inl ⟨nN, by decide⟩))] at hC'
    cases n with
    | zero =>
      rw [zero5 k1 (by decide)]
      exact err 5 (by decide) (by decide) _ (hC'.trans (if_pos (by omega)))
    | succ n =>
      have er : zpt q N (n + 1) (K.drop k) = .ok ((K.drop k).tail, [(1, x)]) := by
        unfold zpt
        rw [k1, kN]; rfl
      rw [er]
      exact zML_eq (zpB_p (sc := sc) (rec := rec) (y := zn d) (x := zn 1) (z := zN) (o := 1) (m := x) hp (lt_of k1 (by decide)) kI k8 (Or.inl ⟨rfl, rfl, kN⟩)) (hC'.trans (if_neg (by omega)))
  · rw [kN, kW] at hC
    have hj := zwh_lt kW
    have hC' : zm_takePart_b sc rec 216 (zn d) (zG I J r) = zpC sc rec 216 (zn d) (zn 0) (zn (j + if q then 4 else 0)) (zG I J r) := hC
    rw [zpC_j h hd5 (Or.inl (by rw [zn_le (by decide) (by split <;> omega)]; omega))] at hC'
    cases n with
    | zero =>
      rw [zero5 k1 (by decide)]
      exact err 5 (by decide) (by decide) _ (hC'.trans (if_pos (by omega)))
    | succ n =>
      have er : zpt q N (n + 1) (K.drop k) = .ok ((K.drop k).tail, [(2, j)]) := by
        unfold zpt
        rw [k1, ← huu, kW]; rfl
      rw [er]
      exact zML_eq (zpB_p (sc := sc) (rec := rec) (y := zn d) (x := zn 0) (o := 2) (m := j) hp (lt_of k1 (by decide)) kI k8 (Or.inr ⟨rfl, rfl, j, rfl, rfl⟩)) (hC'.trans (if_neg (by omega)))
  · rw [kN, kW] at hC
    have hC' : zm_takePart_b sc rec 216 (zn d) (zG I J r) = zpC sc rec 216 (zn d) (zn 0) zN (zG I J r) := hC
    rw [zpC_j h hd5 (Or.inr (Or.inr (Or.inr ⟨nN, rfl, kI, k8⟩)))] at hC'
    cases n with
    | zero =>
      rw [zero5 k1 (by decide)]
      exact err 5 (by decide) (by decide) _ (hC'.trans (if_pos (by omega)))
    | succ n =>
      have er : zpt q N (n + 1) (K.drop k) = zbd (zpt q N n (K.drop k).tail) (fun L' c => .ok (L', c ++ [(3, 0)])) := by
        show (if zpk q (K.drop k) = 0 then (.error (zer 1 N (K.drop k)) : zPR) else if zpk q (K.drop k) = 1 then _ else if zpk q (K.drop k) = 2 then _ else if zpk q (K.drop k) = 3 then _ else _) = _
        rw [k1]; rfl
      have hk := lt_of k1 (by decide)
      rw [er, List.tail_drop]
      have ew := mhasWord_e (sc := sc) (r := r) h (i := 26) (by decide)
      rw [zsg_27.2.2, decide_eq_true k8, if_pos rfl] at ew
      have hp3 : zPq2 N K q u (zU I 216 7 (zn (k + 1))) J (k + 1) := ⟨h.at7 (k + 1) hk, by rw [zU_ne2 (by decide)]; exact hp.2.1, by omega, by rw [zU_ne2 (by decide)]; exact hp.2.2.2⟩
      refine zML_ad (sc := sc) (I0 := I) (k0 := k) 3 (by decide) (h4 n rfl u _ J (k + 1) hp3) (by omega) (by omega) (fun L2 c2 h2 => by
        have := zsm_pt q N n _ L2 c2 h2
        rw [List.length_drop] at this
        omega) zFm.u7 (fun i _ => by rw [zU_ne (by decide), zU_ne (by decide)]; exact ⟨rfl, rfl⟩) ?_
      refine (hC'.trans (if_neg (by omega))).trans ?_
      unfold zpB
      rw [gI_216, e2, if_pos (by decide), zov rfl, zoc ew, if_neg (by decide), zov rfl, zn_add]
  · rw [kN, kW] at hC
    have hC' : zm_takePart_b sc rec 216 (zn d) (zG I J r) = zpC sc rec 216 (zn d) (zn 0) zN (zG I J r) := hC
    rw [zpC_j h hd5 (Or.inr (Or.inr (Or.inl ⟨nN, rfl, kI⟩)))] at hC'
    cases n with
    | zero =>
      rw [zero5 k1 (by decide)]
      exact err 5 (by decide) (by decide) _ (hC'.trans (if_pos (by omega)))
    | succ n =>
      have er : zpt q N (n + 1) (K.drop k) = zbd (zall q N n (K.drop k).tail) (fun L' c => if zis L' 41 then .ok (L'.tail, c) else .error (zer 1 N L')) := by
        show (if zpk q (K.drop k) = 0 then (.error (zer 1 N (K.drop k)) : zPR) else if zpk q (K.drop k) = 1 then _ else if zpk q (K.drop k) = 2 then _ else if zpk q (K.drop k) = 3 then _ else _) = _
        rw [k1]; rfl
      have hk := lt_of k1 (by decide)
      rw [er, List.tail_drop]
      have ew := mhasWord_e (sc := sc) (r := r) h (i := 26) (by decide)
      rw [zsg_27.2.2, decide_eq_false k8, if_neg (by decide), Nat.add_zero, zU7 e1] at ew
      have es := mhasSign_e (sc := sc) (r := r) h (c := 40) (by decide)
      rw [kI, if_pos rfl] at es
      have hp3 : zPq2 N K q u (zU I 216 7 (zn (k + 1))) J (k + 1) := ⟨h.at7 (k + 1) hk, by rw [zU_ne2 (by decide)]; exact hp.2.1, by omega, by rw [zU_ne2 (by decide)]; exact hp.2.2.2⟩
      have hgo : zm_takePart_b sc rec 216 (zn d) (zG I J r) = zo_c (rec 0 216 (zn (d + 1)) (zG (zU I 216 7 (zn (k + 1))) J r)) (fun w61 h60 => zo_v h60 216 10 (zm_takeSign sc 216 (zn 41) h60) (fun w65 h64 => some ((), h64))) := by
        refine (hC'.trans (if_neg (by omega))).trans ?_
        unfold zpB
        rw [gI_216, e2, if_pos (by decide), zov rfl, zoc ew, if_pos (show zt false = zn 0 from rfl), zov rfl, zoc es, if_neg (by decide), zov rfl, zn_add]
      have hq := h0 n rfl u _ J (k + 1) hp3
      have h7 : zFm I (zU I 216 7 (zn (k + 1))) := zFm.u7
      cases hr : zall q N n (K.drop (k + 1)) with
      | error F =>
        rw [hr] at hq
        obtain ⟨f1, I2, k2, u2, r1, r2, r3, r4, r5, r6⟩ := hq
        refine ⟨f1, I2, k2, u2, ?_, r2, by omega, h7.tr r4, r5, by omega⟩
        (try dsimp only)
        rw [hgo, zoc r1, zov rfl, zoc (mtakeSign_F r2 f1 (zn 41))]
      | ok p =>
        rw [hr] at hq
        obtain ⟨L1, c1⟩ := p
        have hsm := zsm_all q N n _ L1 c1 hr
        obtain ⟨I2, k2, r1, r2, r3, r4, r5, r6, r7, r8⟩ := hq
        dsimp only at r3 r6 r7
        have hk2 := r2.2.1
        have hpb2 := r2.plb
        rw [r3, List.length_drop, List.length_drop] at hsm
        have r8' : ∀ i, i < 1100 + u → I2 223 i = I 223 i ∧ I2 224 i = I 224 i := fun i hi => by
          have := r8 i hi
          rw [zU_ne (by decide), zU_ne (by decide)] at this
          exact this
        show zML r N K q u _ I J k (if zis L1 41 then .ok (L1.tail, c1) else .error (zer 1 N L1))
        rw [r3]
        cases c41 : zis (K.drop k2) 41 with
        | true =>
          rw [if_pos rfl]
          have t1 := mtakeSign_t (sc := sc) (r := r) r2 (c := 41) (by decide) c41
          have hk3 : k2 < K.length := by
            obtain ⟨t, M, hM⟩ := zis_c c41
            by_cases z : k2 < K.length
            · exact z
            · rw [List.drop_eq_nil_iff.mpr (by omega)] at hM; cases hM
          refine ⟨zU I2 216 7 (zn (k2 + 1)), k2 + 1, ?_, r2.at7 (k2 + 1) hk3, by rw [List.tail_drop], by omega, (h7.tr r5).tr zFm.u7, ?_, ?_, fun i hi => ?_⟩
          · (try dsimp only)
            rw [hgo, zoc r1, zov rfl, zoc t1]
          · rw [zU_ne2 (by decide)]; exact r6
          · exact zcm_fr r7 (fun i _ => by rw [zU_ne (by decide), zU_ne (by decide)]; exact ⟨rfl, rfl⟩)
          · rw [zU_ne (by decide), zU_ne (by decide)]; exact r8' i hi
        | false =>
          rw [if_neg (by decide)]
          have t1 := mtakeSign_f (sc := sc) (r := r) r2 (c := 41) (by decide) c41
          refine ⟨by unfold zer; omega, zU I2 216 8 (zn (zer 1 N (K.drop k2))), k2, u + c1.length, ?_, r2.er (by decide), by omega, (h7.tr r5).tr zFm.u8, by rw [zU_ne2 (by decide)]; exact r6, by omega⟩
          (try dsimp only)
          rw [hgo, zoc r1, zov rfl, zoc t1]
  · rw [kN, kW] at hC
    have hC' : zm_takePart_b sc rec 216 (zn d) (zG I J r) = zpC sc rec 216 (zn d) (zn 0) zN (zG I J r) := hC
    rw [zpC_0 h nN rfl kI k8] at hC'
    have er : zpt q N n (K.drop k) = .error (zer 1 N (K.drop k)) := by
      cases n with
      | zero =>
        show (if zpk q (K.drop k) = 0 then (.error (zer 1 N (K.drop k)) : zPR) else .error (zer 5 N (K.drop k))) = _
        rw [if_pos k1]
      | succ n =>
        unfold zpt
        rw [if_pos k1]
    rw [er]
    exact err 1 (by decide) (by decide) _ hC'
end ZO
section ZO
variable {sc : zX} {r : zRr} {N : Nat} {K : List zTo} {q : Bool}
theorem mgrp_e : ∀ n d fu, n + d = 5 → 5 * n + 1 ≤ fu → zRe r N K q (fun h => zm_all_grp sc fu 4 216 (zn d) h) (zpt q N n) ∧ ∀ fu', fu + 4 ≤ fu' → zRe r N K q (fun h => zm_all_grp sc fu' 0 216 (zn d) h) (zall q N n) := by
  have up : ∀ n d fu, zRe r N K q (fun h => zm_all_grp sc fu 4 216 (zn d) h) (zpt q N n) → zRe r N K q (fun h => zm_all_grp sc (fu + 4) 0 216 (zn d) h) (zall q N n) := by
    intro n d fu h
    have m1 := zsm_pt q N n
    have m2 := zsm_lv (op := zop6) (by simp) m1
    have m3 := zsm_lv (op := zop45) (by simp) m2
    have m4 := zsm_ts m3
    have p1 := mprod_e (sc := sc) (rec := zm_all_grp sc fu) (y := zn d) m1 h
    have p1' : zRe r N K q (fun h => zm_all_grp sc (fu + 1) 3 216 (zn d) h) _ := p1
    have p2 := msum_e (sc := sc) (rec := zm_all_grp sc (fu + 1)) (y := zn d) m2 p1'
    have p2' : zRe r N K q (fun h => zm_all_grp sc (fu + 2) 2 216 (zn d) h) _ := p2
    have p3 := mtest_e (sc := sc) (rec := zm_all_grp sc (fu + 2)) (y := zn d) m3 p2'
    have p3' : zRe r N K q (fun h => zm_all_grp sc (fu + 3) 1 216 (zn d) h) _ := p3
    exact mall_e (sc := sc) (rec := zm_all_grp sc (fu + 3)) (y := zn d) m4 p3'
  intro n
  induction n with
  | zero =>
    intro d fu hd hf
    have key : ∀ fu, 1 ≤ fu → zRe r N K q (fun h => zm_all_grp sc fu 4 216 (zn d) h) (zpt q N 0) := by
      intro fu hf
      obtain ⟨fu, rfl⟩ : ∃ m, fu = m + 1 := ⟨fu - 1, by omega⟩
      exact mpart_e (sc := sc) (rec := zm_all_grp sc fu) hd (fun m hm => by omega) (fun m hm => by omega)
    refine ⟨key fu (by omega), fun fu' h' => ?_⟩
    obtain ⟨g, rfl⟩ : ∃ g, fu' = g + 4 := ⟨fu' - 4, by omega⟩
    exact up 0 d g (key g (by omega))
  | succ n ih =>
    intro d fu hd hf
    have key : ∀ fu, 5 * (n + 1) + 1 ≤ fu → zRe r N K q (fun h => zm_all_grp sc fu 4 216 (zn d) h) (zpt q N (n + 1)) := by
      intro fu hf
      obtain ⟨fu, rfl⟩ : ∃ m, fu = m + 1 := ⟨fu - 1, by omega⟩
      obtain ⟨i1, i2⟩ := ih (d + 1) (fu - 4) (by omega) (by omega)
      have i3 := (ih (d + 1) fu (by omega) (by omega)).1
      exact mpart_e (sc := sc) (rec := zm_all_grp sc fu) hd (fun m hm => by
        have : m = n := by omega
        subst this; exact i3) (fun m hm => by
        have : m = n := by omega
        subst this; exact i2 fu (by omega))
    refine ⟨key fu hf, fun fu' h' => ?_⟩
    obtain ⟨g, rfl⟩ : ∃ g, fu' = g + 4 := ⟨fu' - 4, by omega⟩
    exact up (n + 1) d g (key g (by omega))
theorem mreadAll_e : zRe r N K q (fun h => zm_all sc 64 216 (zn 0) h) (zall q N 5) := (mgrp_e (sc := sc) 5 0 60 (by decide) (by decide)).2 64 (by decide)
end ZO
