/-! armies as told: the reference reads men -/
section ZO
variable {sc : zX} {I : zII} {J : zJJ} {r : zRr} {N u : Nat} {K : List zTo} {D : zDft}
theorem mman_r {L : List zTo} (hD : zDw D) (hc : zDm I J D u) (hg : zgt L) (h : zSs I J N K (.ok L)) (hL : zws L = some 1) : ∃ I' J', zm_readMan sc 216 (zG I J r) = some ((), zG I' J' r) ∧ zFA I J I' J' ∧ (match zma N D L with
    | .error F => zSs I' J' N K (.error F)
    | .ok p => zSs I' J' N K (.ok p.1) ∧ zDm I' J' p.2 u) := by
  have e51 := hc.1.2.1
  have hP6 := hD.1.1
  have hM6 := hD.1.2.1
  have hlen := hD.2.2.2
  by_cases c6 : 6 ≤ aM D.1
  · obtain ⟨I1, q1, q2, q3⟩ := mwrong_s (sc := sc) (r := r) h (x := 5) (by decide) (by decide)
    have c6' : aM D.1 = 6 := by omega
    rw [c6'] at e51
    refine ⟨I1, J, ?_, q3.fa, ?_⟩
    · rw [um_readMan]
      simp (disch := first | assumption | omega) only [e51, ↓zoc q1, ↓gI_64, ↓gL_64, ↓pI_64, ↓pL_64, ↓vv_64, ↓gI_65, ↓gL_65, ↓pI_65, ↓pL_65, ↓vv_65, ↓gI_67, ↓gL_67, ↓pI_67, ↓pL_67, ↓vv_67, ↓gI_70, ↓gL_70, ↓pI_70, ↓pL_70, ↓vv_70, ↓gI_73, ↓gL_73, ↓pI_73, ↓pL_73, ↓vv_73, ↓gI_77, ↓gL_77, ↓pI_77, ↓pL_77, ↓vv_77, ↓gI_84, ↓gL_84, ↓pI_84, ↓pL_84, ↓vv_84, ↓gI_90, ↓gL_90, ↓pI_90, ↓pL_90, ↓vv_90, ↓gI_216, ↓gL_216, ↓pI_216, ↓pL_216, ↓vv_216, ↓rd_66, ↓wr_66, ↓ln_66, ↓at_68, ↓pt_68, ↓at_69, ↓pt_69, ↓at_71, ↓pt_71, ↓at_72, ↓pt_72, ↓at_74, ↓pt_74, ↓at_75, ↓pt_75, ↓at_76, ↓pt_76, ↓at_78, ↓pt_78, ↓at_79, ↓pt_79, ↓at_80, ↓pt_80, ↓at_81, ↓pt_81, ↓at_82, ↓pt_82, ↓at_83, ↓pt_83, ↓at_85, ↓pt_85, ↓at_86, ↓pt_86, ↓at_87, ↓pt_87, ↓at_88, ↓pt_88, ↓at_89, ↓pt_89, ↓at_91, ↓pt_91, ↓at_95, ↓pt_95, ↓rd_217, ↓wr_217, ↓ln_217, ↓rd_218, ↓wr_218, ↓ln_218, ↓rd_219, ↓wr_219, ↓ln_219, ↓rd_220, ↓wr_220, ↓ln_220, ↓rd_221, ↓wr_221, ↓ln_221, ↓rd_222, ↓wr_222, ↓ln_222, ↓rd_223, ↓wr_223, ↓ln_223, ↓rd_224, ↓wr_224, ↓ln_224, ↓rd_225, ↓wr_225, ↓ln_225, ↓rd_226, ↓wr_226, ↓ln_226, ↓rd_227, ↓wr_227, ↓ln_227, ↓rd_228, ↓wr_228, ↓ln_228, ↓rd_229, ↓wr_229, ↓ln_229, ↓rd_230, ↓wr_230, ↓ln_230, ↓rd_231, ↓wr_231, ↓ln_231, ↓rd_232, ↓wr_232, ↓ln_232, ↓rd_233, ↓wr_233, ↓ln_233, ↓rd_234, ↓wr_234, ↓ln_234, ↓rd_235, ↓wr_235, ↓ln_235, ↓rd_236, ↓wr_236, ↓ln_236, ↓rd_237, ↓wr_237, ↓ln_237, ↓rd_238, ↓wr_238, ↓ln_238, ↓rd_239, ↓wr_239, ↓ln_239, ↓rd_240, ↓wr_240, ↓ln_240, ↓rd_241, ↓wr_241, ↓ln_241, ↓rd_242, ↓wr_242, ↓ln_242, ↓rd_243, ↓wr_243, ↓ln_243, ↓gR_64_0, ↓gR_64_1, ↓gR_64_2, ↓gR_64_3, ↓gR_64_4, ↓gR_64_5, ↓gR_64_6, ↓gR_64_7, ↓gR_64_8, ↓gR_64_9, ↓gR_64_10, ↓gR_65_0, ↓gR_67_0, ↓gR_67_1, ↓gR_70_0, ↓gR_70_1, ↓gR_73_0, ↓gR_73_1, ↓gR_73_2, ↓gR_77_3, ↓gR_77_4, ↓gR_77_7, ↓gR_77_8, ↓gR_77_9, ↓gR_77_10, ↓gR_84_0, ↓gR_84_1, ↓gR_84_2, ↓gR_84_3, ↓gR_84_4, ↓gR_90_1, ↓gR_216_1, ↓gR_216_4, ↓gR_216_5, ↓gR_216_6, ↓gR_216_9, ↓gR_216_10, ↓gR_216_11, ↓gR_216_12, ↓gR_216_14, ↓gR_216_15, ↓gR_216_16, ↓gR_216_17, ↓gR_216_22, ↓gR_216_23, ↓gR_216_24, ↓gR_216_25, ↓gR_216_27, ↓gR_216_28, ↓gR_216_29, ↓gR_216_31, ↓gR_216_35, ↓gR_216_36, ↓gR_216_37, ↓gR_216_38, ↓gR_216_39, ↓gR_216_43, ↓gR_64_11, ↓gR_64_12, ↓gR_64_13, ↓gR_64_14, ↓gQ_65, ↓gI_A, ↓gL_A, ↓pI_A, ↓pL_A, ↓vv_A, ↓gI_Lw, ↓gL_Lw, ↓pI_Lw, ↓pL_Lw, ↓vv_Lw, ↓gR_A_7, ↓gR_A_8, ↓gR_A_9, ↓gR_A_10, ↓gR_A_11, ↓gR_A_12, ↓gR_A_13, ↓gR_A_14, ↓gR_A_15, ↓gR_A_16, ↓gR_A_17, ↓gR_Lw_0, ↓gR_Lw_1, ↓gR_Lw_2, ↓gR_Lw_3, ↓gR_Lw_4, ↓at_A1, ↓pt_A1, ↓at_A2, ↓pt_A2, ↓at_A3, ↓pt_A3, ↓at_A4, ↓pt_A4, ↓at_A5, ↓pt_A5, ↓at_A6, ↓pt_A6, ↓rd_A7, ↓wr_A7, ↓ln_A7, ↓rd_A8, ↓wr_A8, ↓ln_A8, ↓at_A9, ↓pt_A9, ↓at_A10, ↓pt_A10, ↓at_A12, ↓pt_A12, ↓at_A13, ↓pt_A13, ↓at_A14, ↓pt_A14, ↓at_A15, ↓pt_A15, ↓at_A16, ↓pt_A16, ↓gI_W, ↓gL_W, ↓pI_W, ↓pL_W, ↓vv_W, ↓gR_W_1, ↓gR_W_2, ↓gR_W_3, ↓gR_W_4, ↓at_W1, ↓pt_W1, ↓at_W2, ↓pt_W2, ↓at_W3, ↓pt_W3, ↓at_W4, ↓pt_W4, ↓rdR_92, ↓rdR_93, ↓rdR_94, ↓gI_S, ↓gL_S, ↓pI_S, ↓pL_S, ↓vv_S, ↓gR_S_0, ↓gR_S_1, ↓at_S1, ↓pt_S1, ↓at_S2, ↓pt_S2, ↓gI_N, ↓gL_N, ↓pI_N, ↓pL_N, ↓vv_N, ↓gR_N_0, ↓gR_N_1, ↓gR_N_2, ↓at_N1, ↓pt_N1, ↓at_N2, ↓pt_N2, ↓at_N3, ↓pt_N3, ↓pB_S, ↓pB_S0, ↓pB_S1, ↓pB_770, ↓pB_771, ↓at_6, ↓pt_6, ↓atN, ↓ptN, ↓cS, ↓bS, ↓zol, ↓zrb, ↓zrb0, ↓zrb1, ↓reduceIte, z32_s, z32_n, zb_test, zn_add, zn_mul, zn_addN, zn_sub, zU_ne, zU_eq, zU_at, zV_ne, zV_eq, zV_at, p_le, p_nle, p_lt, p_nlt, p_eq, p_neq, p_eqN, p_leN, p_ltN, p_Nle, p_Nlt, p_Neq, p_zt0, p_zt1, eq_self, Nat.reduceAdd, Nat.reduceMul, Nat.reduceSub, Nat.reduceEqDiff, Nat.reduceLT, Nat.reduceLeDiff, if_true, if_false, Bool.false_eq_true, not_true_eq_false, not_false_eq_true, reduceCtorEq]
    · unfold zma
      rw [if_pos c6]
      exact q2
  · obtain ⟨t, M, rfl⟩ := zws_c hL
    obtain ⟨P, hP⟩ : ∃ P, P = aM D.1 := ⟨_, rfl⟩
    have hPl : P < 6 := by omega
    rw [← hP] at e51
    obtain ⟨I1, J1, e1, f1, f1b, j1, d1⟩ := mname_e (sc := sc) (r := r) (y := 20 + P) hD.1 hD.2.1 (by omega) hc.2.2.1 h
    have fa1 : zFA I J I1 J1 := ⟨f1.mono (by intro o9 ho9; simp only [List.mem_cons, List.not_mem_nil, or_false] at ho9 ⊢; omega), fun k a b _ c _ _ => f1b k a b c, fun k _ => by rw [f1 222 (by simp only [List.mem_cons, List.not_mem_nil, or_false, not_or] <;> omega)], fun k _ => ⟨by rw [f1 223 (by simp only [List.mem_cons, List.not_mem_nil, or_false, not_or] <;> omega)], by rw [f1 224 (by simp only [List.mem_cons, List.not_mem_nil, or_false, not_or] <;> omega)]⟩, j1⟩
    obtain ⟨S1, hS1, s1⟩ : ∃ S1, S1 = (match znn D.2.1 N M with | .error F => .error F | .ok p => .ok p.1) ∧ zSs I1 J1 N K S1 := by
      refine ⟨_, rfl, ?_⟩
      cases hr : znn D.2.1 N M with
      | error F => rw [hr] at d1; exact d1
      | ok p => rw [hr] at d1; exact d1.1
    obtain ⟨I2, e2, s2, f2⟩ := mafter_s (sc := sc) (r := r) s1 (i := 4) (i' := 4) (lo := 0) (hi := 9) (by decide) (by decide) (by decide) (by decide)
    obtain ⟨y2, hy2⟩ : ∃ y2, y2 = (zap 0 (zwn N 4 0 9) S1).2 := ⟨_, rfl⟩
    obtain ⟨S2, hS2⟩ : ∃ S2, S2 = (zap 0 (zwn N 4 0 9) S1).1 := ⟨_, rfl⟩
    rw [← hy2] at e2
    rw [← hS2] at s2
    obtain ⟨I3, hI3⟩ : ∃ I3, I3 = zU I2 222 (78 + 3 * P) (zn y2) := ⟨_, rfl⟩
    have s3 : zSs I3 J1 N K S2 := by rw [hI3]; exact s2.w2
    obtain ⟨I4, e4, s4, f4⟩ := mafter_s (sc := sc) (r := r) s3 (i := 5) (i' := 5) (lo := 0) (hi := 9) (by decide) (by decide) (by decide) (by decide)
    obtain ⟨y4, hy4⟩ : ∃ y4, y4 = (zap 0 (zwn N 5 0 9) S2).2 := ⟨_, rfl⟩
    obtain ⟨S4, hS4⟩ : ∃ S4, S4 = (zap 0 (zwn N 5 0 9) S2).1 := ⟨_, rfl⟩
    rw [← hy4, hI3] at e4
    rw [← hS4] at s4
    obtain ⟨I5, hI5⟩ : ∃ I5, I5 = zU I4 222 (78 + 3 * P + 1) (zn y4) := ⟨_, rfl⟩
    have s5 : zSs I5 J1 N K S4 := by rw [hI5]; exact s4.w2
    obtain ⟨I6, e6, s6, f6⟩ := mafter_s (sc := sc) (r := r) s5 (i := 6) (i' := 6) (lo := 0) (hi := 999) (by decide) (by decide) (by decide) (by decide)
    obtain ⟨y6, hy6⟩ : ∃ y6, y6 = (zap 0 (zwn N 6 0 999) S4).2 := ⟨_, rfl⟩
    obtain ⟨S6, hS6⟩ : ∃ S6, S6 = (zap 0 (zwn N 6 0 999) S4).1 := ⟨_, rfl⟩
    rw [← hy6, hI5] at e6
    rw [← hS6] at s6
    obtain ⟨I7, hI7⟩ : ∃ I7, I7 = zU (zU I6 222 (78 + 3 * P + 2) (zn y6)) 222 51 (zn (P + 1)) := ⟨_, rfl⟩
    have s7 : zSs I7 J1 N K S6 := by rw [hI7]; exact s6.w2.w2
    have r6 : ∀ k, I6 222 k = if k = 78 + 3 * P + 1 then zn y4 else if k = 78 + 3 * P then zn y2 else I 222 k := fun k => by
      rw [f6.1 222 (by simp only [List.mem_cons, List.not_mem_nil, or_false, not_or] <;> omega), hI5, zU_at, f4.1 222 (by simp only [List.mem_cons, List.not_mem_nil, or_false, not_or] <;> omega), hI3, zU_at, f2.1 222 (by simp only [List.mem_cons, List.not_mem_nil, or_false, not_or] <;> omega), f1 222 (by simp only [List.mem_cons, List.not_mem_nil, or_false, not_or] <;> omega)]
    have r7 : ∀ k, I7 222 k = if k = 51 then zn (P + 1) else if k = 78 + 3 * P + 2 then zn y6 else if k = 78 + 3 * P + 1 then zn y4 else if k = 78 + 3 * P then zn y2 else I 222 k := fun k => by
      rw [hI7, zU_at, zU_at, r6]
    have e651 : I6 222 51 = zn P := by rw [r6, if_neg (by omega), if_neg (by omega)]; exact e51
    have fa7 : zFA I J I7 J1 := by
      refine fa1.tr (f2.fa.tr ?_)
      refine zFA.tr (I1 := I3) (J1 := J1) (by rw [hI3]; exact zFA.w2 (by omega)) (f4.fa.tr ?_)
      refine zFA.tr (I1 := I5) (J1 := J1) (by rw [hI5]; exact zFA.w2 (by omega)) (f6.fa.tr ?_)
      rw [hI7]
      exact zFA.tr (zFA.w2 (by omega)) (zFA.w2 (by omega))
    have o7 : ∀ k, k ≠ 7 → k ≠ 8 → I7 216 k = I1 216 k := fun k a b => by
      rw [hI7, zU_ne (by decide), zU_ne (by decide), f6.2 k a b, hI5, zU_ne (by decide), f4.2 k a b, hI3, zU_ne (by decide), f2.2 k a b]
    have g7 : ∀ o, o ≠ 216 → o ≠ 222 → I7 o = I1 o := fun o a b => by
      rw [hI7, zU_ne b, zU_ne b, f6.1 o (by simp only [List.mem_cons, List.not_mem_nil, or_false, not_or] <;> omega), hI5, zU_ne b, f4.1 o (by simp only [List.mem_cons, List.not_mem_nil, or_false, not_or] <;> omega), hI3, zU_ne b, f2.1 o (by simp only [List.mem_cons, List.not_mem_nil, or_false, not_or] <;> omega)]
    have ev : zm_readMan sc 216 (zG I J r) = some ((), zG I7 J1 r) := by
      rw [um_readMan, hI7]
      simp (disch := first | assumption | omega) only [e51, ↓zoc e1, ↓zoc e2, ↓zoc e4, ↓zoc e6, e651, zif_ne, ↓gI_64, ↓gL_64, ↓pI_64, ↓pL_64, ↓vv_64, ↓gI_65, ↓gL_65, ↓pI_65, ↓pL_65, ↓vv_65, ↓gI_67, ↓gL_67, ↓pI_67, ↓pL_67, ↓vv_67, ↓gI_70, ↓gL_70, ↓pI_70, ↓pL_70, ↓vv_70, ↓gI_73, ↓gL_73, ↓pI_73, ↓pL_73, ↓vv_73, ↓gI_77, ↓gL_77, ↓pI_77, ↓pL_77, ↓vv_77, ↓gI_84, ↓gL_84, ↓pI_84, ↓pL_84, ↓vv_84, ↓gI_90, ↓gL_90, ↓pI_90, ↓pL_90, ↓vv_90, ↓gI_216, ↓gL_216, ↓pI_216, ↓pL_216, ↓vv_216, ↓rd_66, ↓wr_66, ↓ln_66, ↓at_68, ↓pt_68, ↓at_69, ↓pt_69, ↓at_71, ↓pt_71, ↓at_72, ↓pt_72, ↓at_74, ↓pt_74, ↓at_75, ↓pt_75, ↓at_76, ↓pt_76, ↓at_78, ↓pt_78, ↓at_79, ↓pt_79, ↓at_80, ↓pt_80, ↓at_81, ↓pt_81, ↓at_82, ↓pt_82, ↓at_83, ↓pt_83, ↓at_85, ↓pt_85, ↓at_86, ↓pt_86, ↓at_87, ↓pt_87, ↓at_88, ↓pt_88, ↓at_89, ↓pt_89, ↓at_91, ↓pt_91, ↓at_95, ↓pt_95, ↓rd_217, ↓wr_217, ↓ln_217, ↓rd_218, ↓wr_218, ↓ln_218, ↓rd_219, ↓wr_219, ↓ln_219, ↓rd_220, ↓wr_220, ↓ln_220, ↓rd_221, ↓wr_221, ↓ln_221, ↓rd_222, ↓wr_222, ↓ln_222, ↓rd_223, ↓wr_223, ↓ln_223, ↓rd_224, ↓wr_224, ↓ln_224, ↓rd_225, ↓wr_225, ↓ln_225, ↓rd_226, ↓wr_226, ↓ln_226, ↓rd_227, ↓wr_227, ↓ln_227, ↓rd_228, ↓wr_228, ↓ln_228, ↓rd_229, ↓wr_229, ↓ln_229, ↓rd_230, ↓wr_230, ↓ln_230, ↓rd_231, ↓wr_231, ↓ln_231, ↓rd_232, ↓wr_232, ↓ln_232, ↓rd_233, ↓wr_233, ↓ln_233, ↓rd_234, ↓wr_234, ↓ln_234, ↓rd_235, ↓wr_235, ↓ln_235, ↓rd_236, ↓wr_236, ↓ln_236, ↓rd_237, ↓wr_237, ↓ln_237, ↓rd_238, ↓wr_238, ↓ln_238, ↓rd_239, ↓wr_239, ↓ln_239, ↓rd_240, ↓wr_240, ↓ln_240, ↓rd_241, ↓wr_241, ↓ln_241, ↓rd_242, ↓wr_242, ↓ln_242, ↓rd_243, ↓wr_243, ↓ln_243, ↓gR_64_0, ↓gR_64_1, ↓gR_64_2, ↓gR_64_3, ↓gR_64_4, ↓gR_64_5, ↓gR_64_6, ↓gR_64_7, ↓gR_64_8, ↓gR_64_9, ↓gR_64_10, ↓gR_65_0, ↓gR_67_0, ↓gR_67_1, ↓gR_70_0, ↓gR_70_1, ↓gR_73_0, ↓gR_73_1, ↓gR_73_2, ↓gR_77_3, ↓gR_77_4, ↓gR_77_7, ↓gR_77_8, ↓gR_77_9, ↓gR_77_10, ↓gR_84_0, ↓gR_84_1, ↓gR_84_2, ↓gR_84_3, ↓gR_84_4, ↓gR_90_1, ↓gR_216_1, ↓gR_216_4, ↓gR_216_5, ↓gR_216_6, ↓gR_216_9, ↓gR_216_10, ↓gR_216_11, ↓gR_216_12, ↓gR_216_14, ↓gR_216_15, ↓gR_216_16, ↓gR_216_17, ↓gR_216_22, ↓gR_216_23, ↓gR_216_24, ↓gR_216_25, ↓gR_216_27, ↓gR_216_28, ↓gR_216_29, ↓gR_216_31, ↓gR_216_35, ↓gR_216_36, ↓gR_216_37, ↓gR_216_38, ↓gR_216_39, ↓gR_216_43, ↓gR_64_11, ↓gR_64_12, ↓gR_64_13, ↓gR_64_14, ↓gQ_65, ↓gI_A, ↓gL_A, ↓pI_A, ↓pL_A, ↓vv_A, ↓gI_Lw, ↓gL_Lw, ↓pI_Lw, ↓pL_Lw, ↓vv_Lw, ↓gR_A_7, ↓gR_A_8, ↓gR_A_9, ↓gR_A_10, ↓gR_A_11, ↓gR_A_12, ↓gR_A_13, ↓gR_A_14, ↓gR_A_15, ↓gR_A_16, ↓gR_A_17, ↓gR_Lw_0, ↓gR_Lw_1, ↓gR_Lw_2, ↓gR_Lw_3, ↓gR_Lw_4, ↓at_A1, ↓pt_A1, ↓at_A2, ↓pt_A2, ↓at_A3, ↓pt_A3, ↓at_A4, ↓pt_A4, ↓at_A5, ↓pt_A5, ↓at_A6, ↓pt_A6, ↓rd_A7, ↓wr_A7, ↓ln_A7, ↓rd_A8, ↓wr_A8, ↓ln_A8, ↓at_A9, ↓pt_A9, ↓at_A10, ↓pt_A10, ↓at_A12, ↓pt_A12, ↓at_A13, ↓pt_A13, ↓at_A14, ↓pt_A14, ↓at_A15, ↓pt_A15, ↓at_A16, ↓pt_A16, ↓gI_W, ↓gL_W, ↓pI_W, ↓pL_W, ↓vv_W, ↓gR_W_1, ↓gR_W_2, ↓gR_W_3, ↓gR_W_4, ↓at_W1, ↓pt_W1, ↓at_W2, ↓pt_W2, ↓at_W3, ↓pt_W3, ↓at_W4, ↓pt_W4, ↓rdR_92, ↓rdR_93, ↓rdR_94, ↓gI_S, ↓gL_S, ↓pI_S, ↓pL_S, ↓vv_S, ↓gR_S_0, ↓gR_S_1, ↓at_S1, ↓pt_S1, ↓at_S2, ↓pt_S2, ↓gI_N, ↓gL_N, ↓pI_N, ↓pL_N, ↓vv_N, ↓gR_N_0, ↓gR_N_1, ↓gR_N_2, ↓at_N1, ↓pt_N1, ↓at_N2, ↓pt_N2, ↓at_N3, ↓pt_N3, ↓pB_S, ↓pB_S0, ↓pB_S1, ↓pB_770, ↓pB_771, ↓at_6, ↓pt_6, ↓atN, ↓ptN, ↓cS, ↓bS, ↓zol, ↓zrb, ↓zrb0, ↓zrb1, ↓reduceIte, z32_s, z32_n, zb_test, zn_add, zn_mul, zn_addN, zn_sub, zU_ne, zU_eq, zU_at, zV_ne, zV_eq, zV_at, p_le, p_nle, p_lt, p_nlt, p_eq, p_neq, p_eqN, p_leN, p_ltN, p_Nle, p_Nlt, p_Neq, p_zt0, p_zt1, eq_self, Nat.reduceAdd, Nat.reduceMul, Nat.reduceSub, Nat.reduceEqDiff, Nat.reduceLT, Nat.reduceLeDiff, if_true, if_false, Bool.false_eq_true, not_true_eq_false, not_false_eq_true, reduceCtorEq]
    refine ⟨I7, J1, ev, fa7, ?_⟩
    unfold zma
    rw [if_neg c6, List.tail_cons]
    cases hr1 : znn D.2.1 N M with
    | error F =>
      rw [hr1] at hS1
      dsimp only at hS1
      subst hS1
      rw [zap_e] at hS2
      dsimp only at hS2
      subst hS2
      rw [zap_e] at hS4
      dsimp only at hS4
      subst hS4
      rw [zap_e] at hS6
      dsimp only at hS6
      subst hS6
      exact s7
    | ok p1 =>
      obtain ⟨L1, nm⟩ := p1
      rw [hr1] at hS1 d1
      dsimp only at hS1 d1
      subst hS1
      rw [zbn_ok]
      have has := zbn_as (x := zwo N 4 L1) (f := fun L3 _ => znb N 0 9 L3) (g := fun L3 br => zbn (zwo N 5 L3) (fun L4 _ => zbn (znb N 0 9 L4) (fun L5 wt => zbn (zwo N 6 L5) (fun L6 _ => zbn (znb N 0 999 L6) (fun L7 co => .ok (L7, (zAn D.1 br wt co, D.2.1 ++ [(nm, 20 + aM D.1)], D.2.2)))))))
      rw [← has]
      rw [show zbn (zwo N 4 L1) (fun L3 _ => znb N 0 9 L3) = zwn N 4 0 9 L1 from rfl]
      cases hr2 : zwn N 4 0 9 L1 with
      | error F =>
        rw [zap_er hr2] at hS2
        dsimp only at hS2
        subst hS2
        rw [zap_e] at hS4
        dsimp only at hS4
        subst hS4
        rw [zap_e] at hS6
        dsimp only at hS6
        subst hS6
        exact s7
      | ok p2 =>
        obtain ⟨L2, br⟩ := p2
        rw [zap_ok hr2] at hS2 hy2
        dsimp only at hS2 hy2
        subst hS2 hy2
        rw [zbn_ok]
        have has2 := zbn_as (x := zwo N 5 L2) (f := fun L3 _ => znb N 0 9 L3) (g := fun L5 wt => zbn (zwo N 6 L5) (fun L6 _ => zbn (znb N 0 999 L6) (fun L7 co => .ok (L7, (zAn D.1 y2 wt co, D.2.1 ++ [(nm, 20 + aM D.1)], D.2.2)))))
        rw [← has2]
        rw [show zbn (zwo N 5 L2) (fun L3 _ => znb N 0 9 L3) = zwn N 5 0 9 L2 from rfl]
        cases hr3 : zwn N 5 0 9 L2 with
        | error F =>
          rw [zap_er hr3] at hS4
          dsimp only at hS4
          subst hS4
          rw [zap_e] at hS6
          dsimp only at hS6
          subst hS6
          exact s7
        | ok p3 =>
          obtain ⟨L3, wt⟩ := p3
          rw [zap_ok hr3] at hS4 hy4
          dsimp only at hS4 hy4
          subst hS4 hy4
          rw [zbn_ok]
          have has3 := zbn_as (x := zwo N 6 L3) (f := fun L3 _ => znb N 0 999 L3) (g := fun L7 co => .ok (L7, (zAn D.1 y2 y4 co, D.2.1 ++ [(nm, 20 + aM D.1)], D.2.2)))
          rw [← has3]
          rw [show zbn (zwo N 6 L3) (fun L3 _ => znb N 0 999 L3) = zwn N 6 0 999 L3 from rfl]
          cases hr4 : zwn N 6 0 999 L3 with
          | error F =>
            rw [zap_er hr4] at hS6
            dsimp only at hS6
            subst hS6
            exact s7
          | ok p4 =>
            obtain ⟨L4, co⟩ := p4
            rw [zap_ok hr4] at hS6 hy6
            dsimp only at hS6 hy6
            subst hS6 hy6
            rw [zbn_ok]
            refine ⟨s7, ?_⟩
            have hh := zDm.man (I := I) (I' := I7) (J := J) (J' := J1) (D := D) (u := u) hD (by omega) hc (br := y2) (wt := y4) (co := y6) (nm := nm)
            rw [← hP] at hh
            have hh2 : zDm I7 J1 (zAn D.1 y2 y4 y6, D.2.1 ++ [(nm, 20 + P)], D.2.2) u := by
              refine hh ?_ (fun k k1 k2 => ?_) ⟨?_, ?_, ?_⟩ ?_ ?_ ?_ ?_ ?_
              · rw [r7, if_pos rfl]
              · rw [r7, if_neg k1, if_neg (by omega), if_neg (by omega), if_neg (by omega)]
              · rw [r7, if_neg (by omega), if_neg (by omega), if_neg (by omega), if_pos rfl]
              · rw [r7, if_neg (by omega), if_neg (by omega), if_pos rfl]
              · rw [r7, if_neg (by omega), if_pos rfl]
              · rw [g7 223 (by decide) (by decide), f1 223 (by simp only [List.mem_cons, List.not_mem_nil, or_false, not_or] <;> omega)]
              · rw [g7 224 (by decide) (by decide), f1 224 (by simp only [List.mem_cons, List.not_mem_nil, or_false, not_or] <;> omega)]
              · have := d1.2
                unfold zQe at *
                rw [o7 19 (by decide) (by decide), g7 228 (by decide) (by decide)]
                exact this
              · rw [o7 20 (by decide) (by decide)]; exact f1b 20 (by decide) (by decide) (by decide)
              · rw [o7 13 (by decide) (by decide)]; exact f1b 13 (by decide) (by decide) (by decide)
            rw [hP] at hh2
            exact hh2
end ZO
