/-! armies as told: the reference, the front and the laws -/
section ZO
variable {sc : zX} {I : zII} {J : zJJ} {r : zRr} {N u : Nat} {K : List zTo} {D : zDft}
theorem monce_f {t : zTo} {M : List zTo} (hD : zDw D) (hc : zDm I J D u) (h : zSs I J N K (.ok (t :: M))) (hu : u + M.length ≤ 1000) : zOn sc r N u K D 3 I J (t :: M) := by
  obtain ⟨I1, k, g1, g2, g3, hI1, s1, hc1, fa1⟩ := mmark_e (i := 3) (by decide) hD hc h
  have hI1' : I1 = zU (zU I 216 20 (I 216 20 ||| (zn 1 <<< (zn 0 &&& 31)))) 216 7 (zn (k + 1)) := hI1
  obtain ⟨I2, e2, s2, f2⟩ := mnumber_s (sc := sc) (r := r) s1 (lo := 4) (hi := 40) (by decide) (by decide)
  obtain ⟨y2, hy2⟩ : ∃ y2, y2 = (zap 0 (znb N 4 40) (.ok M)).2 := ⟨_, rfl⟩
  obtain ⟨S2, hS2⟩ : ∃ S2, S2 = (zap 0 (znb N 4 40) (.ok M)).1 := ⟨_, rfl⟩
  rw [← hy2] at e2
  rw [← hS2] at s2
  obtain ⟨I3, hI3⟩ : ∃ I3, I3 = zU I2 222 52 (zn y2) := ⟨_, rfl⟩
  have s3 : zSs I3 J N K S2 := by rw [hI3]; exact s2.w2
  rw [hI1'] at e2
  have fa3 : zFA I J I3 J := (fa1.tr f2.fa).tr (by rw [hI3]; exact zFA.w2 (by omega))
  have ez : zon N 3 (zD1 D 3) M = zbn (znb N 4 40 M) (fun L1 ce => zbn (zwo N 7 L1) (fun L2 _ => zbn (znb N 1 (ce - 1) L2) (fun L3 st => .ok (L3, (zAf (zAf D.1 0 ce) 1 st, (zD1 D 3).2))))) := by
    unfold zon
    rw [if_neg (by decide), if_pos rfl]
    rfl
  show ∃ I', zoB sc 216 (zn 0) (zG I J r) = some ((), zG I' J r) ∧ zFA I J I' J ∧ (match zon N 3 (zD1 D 3) M with
    | .error F => zSs I' J N K (.error F)
    | .ok p => zSs I' J N K (.ok p.1) ∧ ∃ u', zDm I' J p.2 u' ∧ u' + p.1.length ≤ 1000)
  rw [ez]
  cases hr : znb N 4 40 M with
  | error F =>
    rw [zap_er hr] at hS2 hy2
    dsimp only at hS2 hy2
    subst hS2 hy2
    obtain ⟨q0, kk, q1⟩ := s3
    have e4 := mafter_F (sc := sc) (r := r) q1 q0 (zn 8) (zn 1) (zn 0 - zn 1)
    have e4' : zm_takeAfter sc 216 (zn 8) (zn 1) (zn 0 - zn 1) (zG (zU I2 222 52 (zn 0)) J r) = some (zn 0, zG I3 J r) := by rw [← hI3]; exact e4
    have e01 : zn 0 - zn 1 = zN := by decide
    rw [e01] at e4'
    refine ⟨zU I3 222 53 (zn 0), ?_, fa3.tr (zFA.w2 (by omega)), zSs.w2 (S := .error F) ⟨q0, kk, q1⟩⟩
    unfold zoB
    simp (disch := first | assumption | omega) only [g1, g3, ↓zoc e2, e01, ↓zoc e4', ↓gI_64, ↓gL_64, ↓pI_64, ↓pL_64, ↓vv_64, ↓gI_65, ↓gL_65, ↓pI_65, ↓pL_65, ↓vv_65, ↓gI_67, ↓gL_67, ↓pI_67, ↓pL_67, ↓vv_67, ↓gI_70, ↓gL_70, ↓pI_70, ↓pL_70, ↓vv_70, ↓gI_73, ↓gL_73, ↓pI_73, ↓pL_73, ↓vv_73, ↓gI_77, ↓gL_77, ↓pI_77, ↓pL_77, ↓vv_77, ↓gI_84, ↓gL_84, ↓pI_84, ↓pL_84, ↓vv_84, ↓gI_90, ↓gL_90, ↓pI_90, ↓pL_90, ↓vv_90, ↓gI_216, ↓gL_216, ↓pI_216, ↓pL_216, ↓vv_216, ↓rd_66, ↓wr_66, ↓ln_66, ↓at_68, ↓pt_68, ↓at_69, ↓pt_69, ↓at_71, ↓pt_71, ↓at_72, ↓pt_72, ↓at_74, ↓pt_74, ↓at_75, ↓pt_75, ↓at_76, ↓pt_76, ↓at_78, ↓pt_78, ↓at_79, ↓pt_79, ↓at_80, ↓pt_80, ↓at_81, ↓pt_81, ↓at_82, ↓pt_82, ↓at_83, ↓pt_83, ↓at_85, ↓pt_85, ↓at_86, ↓pt_86, ↓at_87, ↓pt_87, ↓at_88, ↓pt_88, ↓at_89, ↓pt_89, ↓at_91, ↓pt_91, ↓at_95, ↓pt_95, ↓rd_217, ↓wr_217, ↓ln_217, ↓rd_218, ↓wr_218, ↓ln_218, ↓rd_219, ↓wr_219, ↓ln_219, ↓rd_220, ↓wr_220, ↓ln_220, ↓rd_221, ↓wr_221, ↓ln_221, ↓rd_222, ↓wr_222, ↓ln_222, ↓rd_223, ↓wr_223, ↓ln_223, ↓rd_224, ↓wr_224, ↓ln_224, ↓rd_225, ↓wr_225, ↓ln_225, ↓rd_226, ↓wr_226, ↓ln_226, ↓rd_227, ↓wr_227, ↓ln_227, ↓rd_228, ↓wr_228, ↓ln_228, ↓rd_229, ↓wr_229, ↓ln_229, ↓rd_230, ↓wr_230, ↓ln_230, ↓rd_231, ↓wr_231, ↓ln_231, ↓rd_232, ↓wr_232, ↓ln_232, ↓rd_233, ↓wr_233, ↓ln_233, ↓rd_234, ↓wr_234, ↓ln_234, ↓rd_235, ↓wr_235, ↓ln_235, ↓rd_236, ↓wr_236, ↓ln_236, ↓rd_237, ↓wr_237, ↓ln_237, ↓rd_238, ↓wr_238, ↓ln_238, ↓rd_239, ↓wr_239, ↓ln_239, ↓rd_240, ↓wr_240, ↓ln_240, ↓rd_241, ↓wr_241, ↓ln_241, ↓rd_242, ↓wr_242, ↓ln_242, ↓rd_243, ↓wr_243, ↓ln_243, ↓gR_64_0, ↓gR_64_1, ↓gR_64_2, ↓gR_64_3, ↓gR_64_4, ↓gR_64_5, ↓gR_64_6, ↓gR_64_7, ↓gR_64_8, ↓gR_64_9, ↓gR_64_10, ↓gR_65_0, ↓gR_67_0, ↓gR_67_1, ↓gR_70_0, ↓gR_70_1, ↓gR_73_0, ↓gR_73_1, ↓gR_73_2, ↓gR_77_3, ↓gR_77_4, ↓gR_77_7, ↓gR_77_8, ↓gR_77_9, ↓gR_77_10, ↓gR_84_0, ↓gR_84_1, ↓gR_84_2, ↓gR_84_3, ↓gR_84_4, ↓gR_90_1, ↓gR_216_1, ↓gR_216_4, ↓gR_216_5, ↓gR_216_6, ↓gR_216_9, ↓gR_216_10, ↓gR_216_11, ↓gR_216_12, ↓gR_216_14, ↓gR_216_15, ↓gR_216_16, ↓gR_216_17, ↓gR_216_22, ↓gR_216_23, ↓gR_216_24, ↓gR_216_25, ↓gR_216_27, ↓gR_216_28, ↓gR_216_29, ↓gR_216_31, ↓gR_216_35, ↓gR_216_36, ↓gR_216_37, ↓gR_216_38, ↓gR_216_39, ↓gR_216_43, ↓gR_64_11, ↓gR_64_12, ↓gR_64_13, ↓gR_64_14, ↓gQ_65, ↓gI_A, ↓gL_A, ↓pI_A, ↓pL_A, ↓vv_A, ↓gI_Lw, ↓gL_Lw, ↓pI_Lw, ↓pL_Lw, ↓vv_Lw, ↓gR_A_7, ↓gR_A_8, ↓gR_A_9, ↓gR_A_10, ↓gR_A_11, ↓gR_A_12, ↓gR_A_13, ↓gR_A_14, ↓gR_A_15, ↓gR_A_16, ↓gR_A_17, ↓gR_Lw_0, ↓gR_Lw_1, ↓gR_Lw_2, ↓gR_Lw_3, ↓gR_Lw_4, ↓at_A1, ↓pt_A1, ↓at_A2, ↓pt_A2, ↓at_A3, ↓pt_A3, ↓at_A4, ↓pt_A4, ↓at_A5, ↓pt_A5, ↓at_A6, ↓pt_A6, ↓rd_A7, ↓wr_A7, ↓ln_A7, ↓rd_A8, ↓wr_A8, ↓ln_A8, ↓at_A9, ↓pt_A9, ↓at_A10, ↓pt_A10, ↓at_A12, ↓pt_A12, ↓at_A13, ↓pt_A13, ↓at_A14, ↓pt_A14, ↓at_A15, ↓pt_A15, ↓at_A16, ↓pt_A16, ↓gI_W, ↓gL_W, ↓pI_W, ↓pL_W, ↓vv_W, ↓gR_W_1, ↓gR_W_2, ↓gR_W_3, ↓gR_W_4, ↓at_W1, ↓pt_W1, ↓at_W2, ↓pt_W2, ↓at_W3, ↓pt_W3, ↓at_W4, ↓pt_W4, ↓rdR_92, ↓rdR_93, ↓rdR_94, ↓gI_S, ↓gL_S, ↓pI_S, ↓pL_S, ↓vv_S, ↓gR_S_0, ↓gR_S_1, ↓at_S1, ↓pt_S1, ↓at_S2, ↓pt_S2, ↓gI_N, ↓gL_N, ↓pI_N, ↓pL_N, ↓vv_N, ↓gR_N_0, ↓gR_N_1, ↓gR_N_2, ↓at_N1, ↓pt_N1, ↓at_N2, ↓pt_N2, ↓at_N3, ↓pt_N3, ↓pB_S, ↓pB_S0, ↓pB_S1, ↓pB_770, ↓pB_771, ↓at_6, ↓pt_6, ↓atN, ↓ptN, ↓cS, ↓bS, ↓zol, ↓zrb, ↓zrb0, ↓zrb1, ↓reduceIte, z32_s, z32_n, zb_test, zn_add, zn_mul, zn_addN, zn_sub, zU_ne, zU_eq, zU_at, zV_ne, zV_eq, zV_at, p_le, p_nle, p_lt, p_nlt, p_eq, p_neq, p_eqN, p_leN, p_ltN, p_Nle, p_Nlt, p_Neq, p_zt0, p_zt1, eq_self, Nat.reduceAdd, Nat.reduceMul, Nat.reduceSub, Nat.reduceEqDiff, Nat.reduceLT, Nat.reduceLeDiff, if_true, if_false, Bool.false_eq_true, not_true_eq_false, not_false_eq_true, reduceCtorEq]
  | ok p =>
    obtain ⟨L1, ce⟩ := p
    obtain ⟨c1, c2, c3, _⟩ := znb_inv hr
    rw [zap_ok hr] at hS2 hy2
    dsimp only at hS2 hy2
    subst hS2 hy2
    obtain ⟨I4, e4, s4, f4⟩ := mafter_s (sc := sc) (r := r) s3 (i := 8) (i' := 7) (lo := 1) (hi := y2 - 1) (by decide) (by decide) (by decide) (by omega)
    obtain ⟨y4, hy4⟩ : ∃ y4, y4 = (zap 0 (zwn N 7 1 (y2 - 1)) (.ok L1)).2 := ⟨_, rfl⟩
    obtain ⟨S4, hS4⟩ : ∃ S4, S4 = (zap 0 (zwn N 7 1 (y2 - 1)) (.ok L1)).1 := ⟨_, rfl⟩
    rw [← hy4, hI3] at e4
    rw [← hS4] at s4
    have ece : zn y2 - zn 1 = zn (y2 - 1) := zn_sub (by omega)
    obtain ⟨I5, hI5⟩ : ∃ I5, I5 = zU I4 222 53 (zn y4) := ⟨_, rfl⟩
    have s5 : zSs I5 J N K S4 := by rw [hI5]; exact s4.w2
    have fa5 : zFA I J I5 J := (fa3.tr f4.fa).tr (by rw [hI5]; exact zFA.w2 (by omega))
    refine ⟨I5, ?_, fa5, ?_⟩
    · unfold zoB
      rw [hI5]
      simp (disch := first | assumption | omega) only [g1, g3, ↓zoc e2, ece, ↓zoc e4, ↓gI_64, ↓gL_64, ↓pI_64, ↓pL_64, ↓vv_64, ↓gI_65, ↓gL_65, ↓pI_65, ↓pL_65, ↓vv_65, ↓gI_67, ↓gL_67, ↓pI_67, ↓pL_67, ↓vv_67, ↓gI_70, ↓gL_70, ↓pI_70, ↓pL_70, ↓vv_70, ↓gI_73, ↓gL_73, ↓pI_73, ↓pL_73, ↓vv_73, ↓gI_77, ↓gL_77, ↓pI_77, ↓pL_77, ↓vv_77, ↓gI_84, ↓gL_84, ↓pI_84, ↓pL_84, ↓vv_84, ↓gI_90, ↓gL_90, ↓pI_90, ↓pL_90, ↓vv_90, ↓gI_216, ↓gL_216, ↓pI_216, ↓pL_216, ↓vv_216, ↓rd_66, ↓wr_66, ↓ln_66, ↓at_68, ↓pt_68, ↓at_69, ↓pt_69, ↓at_71, ↓pt_71, ↓at_72, ↓pt_72, ↓at_74, ↓pt_74, ↓at_75, ↓pt_75, ↓at_76, ↓pt_76, ↓at_78, ↓pt_78, ↓at_79, ↓pt_79, ↓at_80, ↓pt_80, ↓at_81, ↓pt_81, ↓at_82, ↓pt_82, ↓at_83, ↓pt_83, ↓at_85, ↓pt_85, ↓at_86, ↓pt_86, ↓at_87, ↓pt_87, ↓at_88, ↓pt_88, ↓at_89, ↓pt_89, ↓at_91, ↓pt_91, ↓at_95, ↓pt_95, ↓rd_217, ↓wr_217, ↓ln_217, ↓rd_218, ↓wr_218, ↓ln_218, ↓rd_219, ↓wr_219, ↓ln_219, ↓rd_220, ↓wr_220, ↓ln_220, ↓rd_221, ↓wr_221, ↓ln_221, ↓rd_222, ↓wr_222, ↓ln_222, ↓rd_223, ↓wr_223, ↓ln_223, ↓rd_224, ↓wr_224, ↓ln_224, ↓rd_225, ↓wr_225, ↓ln_225, ↓rd_226, ↓wr_226, ↓ln_226, ↓rd_227, ↓wr_227, ↓ln_227, ↓rd_228, ↓wr_228, ↓ln_228, ↓rd_229, ↓wr_229, ↓ln_229, ↓rd_230, ↓wr_230, ↓ln_230, ↓rd_231, ↓wr_231, ↓ln_231, ↓rd_232, ↓wr_232, ↓ln_232, ↓rd_233, ↓wr_233, ↓ln_233, ↓rd_234, ↓wr_234, ↓ln_234, ↓rd_235, ↓wr_235, ↓ln_235, ↓rd_236, ↓wr_236, ↓ln_236, ↓rd_237, ↓wr_237, ↓ln_237, ↓rd_238, ↓wr_238, ↓ln_238, ↓rd_239, ↓wr_239, ↓ln_239, ↓rd_240, ↓wr_240, ↓ln_240, ↓rd_241, ↓wr_241, ↓ln_241, ↓rd_242, ↓wr_242, ↓ln_242, ↓rd_243, ↓wr_243, ↓ln_243, ↓gR_64_0, ↓gR_64_1, ↓gR_64_2, ↓gR_64_3, ↓gR_64_4, ↓gR_64_5, ↓gR_64_6, ↓gR_64_7, ↓gR_64_8, ↓gR_64_9, ↓gR_64_10, ↓gR_65_0, ↓gR_67_0, ↓gR_67_1, ↓gR_70_0, ↓gR_70_1, ↓gR_73_0, ↓gR_73_1, ↓gR_73_2, ↓gR_77_3, ↓gR_77_4, ↓gR_77_7, ↓gR_77_8, ↓gR_77_9, ↓gR_77_10, ↓gR_84_0, ↓gR_84_1, ↓gR_84_2, ↓gR_84_3, ↓gR_84_4, ↓gR_90_1, ↓gR_216_1, ↓gR_216_4, ↓gR_216_5, ↓gR_216_6, ↓gR_216_9, ↓gR_216_10, ↓gR_216_11, ↓gR_216_12, ↓gR_216_14, ↓gR_216_15, ↓gR_216_16, ↓gR_216_17, ↓gR_216_22, ↓gR_216_23, ↓gR_216_24, ↓gR_216_25, ↓gR_216_27, ↓gR_216_28, ↓gR_216_29, ↓gR_216_31, ↓gR_216_35, ↓gR_216_36, ↓gR_216_37, ↓gR_216_38, ↓gR_216_39, ↓gR_216_43, ↓gR_64_11, ↓gR_64_12, ↓gR_64_13, ↓gR_64_14, ↓gQ_65, ↓gI_A, ↓gL_A, ↓pI_A, ↓pL_A, ↓vv_A, ↓gI_Lw, ↓gL_Lw, ↓pI_Lw, ↓pL_Lw, ↓vv_Lw, ↓gR_A_7, ↓gR_A_8, ↓gR_A_9, ↓gR_A_10, ↓gR_A_11, ↓gR_A_12, ↓gR_A_13, ↓gR_A_14, ↓gR_A_15, ↓gR_A_16, ↓gR_A_17, ↓gR_Lw_0, ↓gR_Lw_1, ↓gR_Lw_2, ↓gR_Lw_3, ↓gR_Lw_4, ↓at_A1, ↓pt_A1, ↓at_A2, ↓pt_A2, ↓at_A3, ↓pt_A3, ↓at_A4, ↓pt_A4, ↓at_A5, ↓pt_A5, ↓at_A6, ↓pt_A6, ↓rd_A7, ↓wr_A7, ↓ln_A7, ↓rd_A8, ↓wr_A8, ↓ln_A8, ↓at_A9, ↓pt_A9, ↓at_A10, ↓pt_A10, ↓at_A12, ↓pt_A12, ↓at_A13, ↓pt_A13, ↓at_A14, ↓pt_A14, ↓at_A15, ↓pt_A15, ↓at_A16, ↓pt_A16, ↓gI_W, ↓gL_W, ↓pI_W, ↓pL_W, ↓vv_W, ↓gR_W_1, ↓gR_W_2, ↓gR_W_3, ↓gR_W_4, ↓at_W1, ↓pt_W1, ↓at_W2, ↓pt_W2, ↓at_W3, ↓pt_W3, ↓at_W4, ↓pt_W4, ↓rdR_92, ↓rdR_93, ↓rdR_94, ↓gI_S, ↓gL_S, ↓pI_S, ↓pL_S, ↓vv_S, ↓gR_S_0, ↓gR_S_1, ↓at_S1, ↓pt_S1, ↓at_S2, ↓pt_S2, ↓gI_N, ↓gL_N, ↓pI_N, ↓pL_N, ↓vv_N, ↓gR_N_0, ↓gR_N_1, ↓gR_N_2, ↓at_N1, ↓pt_N1, ↓at_N2, ↓pt_N2, ↓at_N3, ↓pt_N3, ↓pB_S, ↓pB_S0, ↓pB_S1, ↓pB_770, ↓pB_771, ↓at_6, ↓pt_6, ↓atN, ↓ptN, ↓cS, ↓bS, ↓zol, ↓zrb, ↓zrb0, ↓zrb1, ↓reduceIte, z32_s, z32_n, zb_test, zn_add, zn_mul, zn_addN, zn_sub, zU_ne, zU_eq, zU_at, zV_ne, zV_eq, zV_at, p_le, p_nle, p_lt, p_nlt, p_eq, p_neq, p_eqN, p_leN, p_ltN, p_Nle, p_Nlt, p_Neq, p_zt0, p_zt1, eq_self, Nat.reduceAdd, Nat.reduceMul, Nat.reduceSub, Nat.reduceEqDiff, Nat.reduceLT, Nat.reduceLeDiff, if_true, if_false, Bool.false_eq_true, not_true_eq_false, not_false_eq_true, reduceCtorEq]
    · rw [zbn_ok]
      have has := zbn_as (x := zwo N 7 L1) (f := fun L3 _ => znb N 1 (y2 - 1) L3) (g := fun L3 st => .ok (L3, (zAf (zAf D.1 0 y2) 1 st, (zD1 D 3).2)))
      rw [← has]
      rw [show zbn (zwo N 7 L1) (fun L3 _ => znb N 1 (y2 - 1) L3) = zwn N 7 1 (y2 - 1) L1 from rfl]
      cases hr2 : zwn N 7 1 (y2 - 1) L1 with
      | error F =>
        rw [zap_er hr2] at hS4
        dsimp only at hS4
        subst hS4
        exact s5
      | ok p2 =>
        obtain ⟨L2, st⟩ := p2
        rw [zap_ok hr2] at hS4 hy4
        dsimp only at hS4 hy4
        subst hS4 hy4
        rw [zbn_ok]
        have hl : L2.length ≤ M.length := by
          obtain ⟨L3, x3, a1, a2⟩ := zbn_inv (show zbn (zwo N 7 L1) (fun L1 _ => znb N 1 (y2 - 1) L1) = .ok (L2, y4) from hr2)
          have l1 : L1.length ≤ M.length := by rw [c3]; exact ztl
          have l2 : L3.length ≤ L1.length := by rw [(zwo_inv a1).2]; exact ztl
          have l3 : L2.length ≤ L3.length := by rw [(znb_inv a2).2.2.1]; exact ztl
          omega
        have r5 : ∀ k, I5 222 k = if k = 53 then zn y4 else if k = 52 then zn y2 else I1 222 k := fun k => by
          rw [hI5, zU_at, f4.1 222 (by simp only [List.mem_cons, List.not_mem_nil, or_false, not_or] <;> omega), hI3, zU_at, f2.1 222 (by simp only [List.mem_cons, List.not_mem_nil, or_false, not_or] <;> omega)]
        have o5 : ∀ k, k ≠ 7 → k ≠ 8 → I5 216 k = I1 216 k := fun k a b => by rw [hI5, zU_ne (by decide), f4.2 k a b, hI3, zU_ne (by decide), f2.2 k a b]
        have g5 : ∀ o, o ≠ 216 → o ≠ 222 → I5 o = I1 o := fun o a b => by rw [hI5, zU_ne b, f4.1 o (by simp only [List.mem_cons, List.not_mem_nil, or_false, not_or] <;> omega), hI3, zU_ne b, f2.1 o (by simp only [List.mem_cons, List.not_mem_nil, or_false, not_or] <;> omega)]
        have hD1 : zDw (zD1 D 3) := hD
        refine ⟨s5, u, ?_, by show u + L2.length ≤ 1000; omega⟩
        refine zDm.fld (D := zD1 D 3) (A' := zAf (zAf D.1 0 y2) 1 y4) (tl := (zD1 D 3).2.2) hD1 hc1 rfl rfl (fun i' j q => (show aF (zAf (zAf D.1 0 y2) 1 y4) i' j = aF D.1 i' j from by rw [zAf_F, zAf_F, if_neg (fun z => q z.1), if_neg (fun z => q z.1)])) rfl rfl (fun k' hk' => ?_) (fun j hj => ?_) (fun j hj => ?_) (g5 223 (by decide) (by decide)) (g5 224 (by decide) (by decide)) (g5 228 (by decide) (by decide)) (o5 19 (by decide) (by decide)) (o5 13 (by decide) (by decide))
        · rw [r5, if_neg (by omega), if_neg (by omega)]
        · rw [zAf_F, zAf_F, r5]
          rcases (by omega : j = 0 ∨ j = 1 ∨ 2 ≤ j) with rfl | rfl | q
          · rw [if_neg (by decide), if_pos rfl, if_neg (by decide), if_pos ⟨rfl, rfl⟩]
          · rw [if_pos rfl, if_pos ⟨rfl, rfl⟩]
          · rw [if_neg (by omega), if_neg (by omega), if_neg (by omega), if_neg (by omega)]
            exact hc1.1.2.2.1 j hj
        · rw [o5 20 (by decide) (by decide)]
          exact hc1.2.2.2.1 j hj
theorem monce_l {i : Nat} (hi : i < 3) {t : zTo} {M : List zTo} (hD : zDw D) (hc : zDm I J D u) (h : zSs I J N K (.ok (t :: M))) (hu : u + (t :: M).length ≤ 1000) : zOn sc r N u K D i I J (t :: M) := by
  obtain ⟨I1, k, g1, g2, g3, hI1, s1, hc1, fa1⟩ := mmark_e (i := i) (by omega) hD hc h
  rw [List.length_cons] at hu
  have hx : (i + 4) % 7 = i + 4 := by omega
  have hD1 : zDw (zD1 D i) := hD
  obtain ⟨q, hq⟩ : ∃ q, q = decide (i = 2) := ⟨_, rfl⟩
  have e13 : I1 216 13 = zn u := hc1.2.2.2.2
  obtain ⟨mk, hmk⟩ : ∃ mk, mk = if q then 112 else 15 := ⟨_, rfl⟩
  have emk : (if zn 6 ≤ zn (i + 4) then zn 112 else zn 15) = zn mk := by
    by_cases c : i = 2
    · rw [if_pos (by rw [zn_le (by omega) (by omega)]; omega), hmk, hq, decide_eq_true c]; rfl
    · rw [if_neg (by rw [zn_le (by omega) (by omega)]; omega), hmk, hq, decide_eq_false c]; rfl
  obtain ⟨I2, hI2⟩ : ∃ I2, I2 = zU (zU I1 222 (57 + i) (zn u)) 216 21 (zn mk) := ⟨_, rfl⟩
  have s2 : zSs I2 J N K (.ok M) := s1.fr (by rw [hI2, zU_ne (by decide), zU_ne (by decide)]) (by rw [hI2, zU_ne (by decide), zU_ne (by decide)]) (by rw [hI2, zU_ne2 (by decide), zU_ne (by decide)]) (by rw [hI2, zU_ne2 (by decide), zU_ne (by decide)]) rfl rfl
  obtain ⟨k2, m2, hM⟩ := s2
  have hlenM : M.length = K.length - k2 := by rw [hM, List.length_drop]
  have hk2 := m2.2.1
  have hK := m2.1.2.2.2.1
  have e213 : I2 216 13 = zn u := by rw [hI2, zU_ne2 (by decide), zU_ne (by decide)]; exact e13
  have qa := mreadAll_e (sc := sc) (r := r) (N := N) (K := K) (q := q) u I2 J k2 ⟨m2, e213, by omega, by rw [hI2, zU_eq, hmk]⟩
  rw [← hM] at qa
  have fa2 : zFA I J I2 J := by
    refine fa1.tr ?_
    rw [hI2]
    refine zFA.tr (zFA.w2 (i := 57 + i) (x := zn u) (by omega)) ?_
    exact ⟨(zFr.refl _ _).u (by simp only [List.mem_cons, List.not_mem_nil, or_false, true_or, or_true] <;> omega), fun k' a b c d e f => zU_ne2 f, fun k' _ => by rw [zU_ne (by decide)], fun k' _ => ⟨by rw [zU_ne (by decide)], by rw [zU_ne (by decide)]⟩, fun _ _ => rfl⟩
  have ez : zon N i (zD1 D i) M = zbn (zall q N 5 M) (fun L1 c => .ok (L1, (zAl D.1 i c, (zD1 D i).2))) := by
    unfold zon
    rw [if_pos hi, hq]
    rfl
  have e57 : 57 + (i + 4) - 4 = 57 + i := by omega
  show ∃ I', zoB sc 216 (zn ((i + 4) % 7)) (zG I J r) = some ((), zG I' J r) ∧ zFA I J I' J ∧ (match zon N i (zD1 D i) M with
    | .error F => zSs I' J N K (.error F)
    | .ok p => zSs I' J N K (.ok p.1) ∧ ∃ u', zDm I' J p.2 u' ∧ u' + p.1.length ≤ 1000)
  rw [ez]
  rw [hx] at hI1 ⊢
  have hn0 : i + 4 ≠ 0 := by omega
  -- the emit at the end
  have fin : ∀ I3 u3, zm_all sc 64 216 (zn 0) (zG I2 J r) = some ((), zG I3 J r) → I3 216 13 = zn u3 → u3 < 1100 → zoB sc 216 (zn (i + 4)) (zG I J r) = some ((), zG (zU (zU (zU I3 223 (1100 + u3) (zn 0)) 224 (1100 + u3) (zn 0)) 216 13 (zn (u3 + 1))) J r) := by
    intro I3 u3 e3 e133 hu3
    have ee := emit_e (sc := sc) (r := r) (J := J) e133 hu3 (zn 0) (zn 0)
    rw [hI2, hI1] at e3
    rw [hI1] at e13
    unfold zoB
    simp (disch := first | assumption | omega) only [g1, g3, e13, e57, emk, ↓zoc e3, ↓zoc ee, ↓gI_64, ↓gL_64, ↓pI_64, ↓pL_64, ↓vv_64, ↓gI_65, ↓gL_65, ↓pI_65, ↓pL_65, ↓vv_65, ↓gI_67, ↓gL_67, ↓pI_67, ↓pL_67, ↓vv_67, ↓gI_70, ↓gL_70, ↓pI_70, ↓pL_70, ↓vv_70, ↓gI_73, ↓gL_73, ↓pI_73, ↓pL_73, ↓vv_73, ↓gI_77, ↓gL_77, ↓pI_77, ↓pL_77, ↓vv_77, ↓gI_84, ↓gL_84, ↓pI_84, ↓pL_84, ↓vv_84, ↓gI_90, ↓gL_90, ↓pI_90, ↓pL_90, ↓vv_90, ↓gI_216, ↓gL_216, ↓pI_216, ↓pL_216, ↓vv_216, ↓rd_66, ↓wr_66, ↓ln_66, ↓at_68, ↓pt_68, ↓at_69, ↓pt_69, ↓at_71, ↓pt_71, ↓at_72, ↓pt_72, ↓at_74, ↓pt_74, ↓at_75, ↓pt_75, ↓at_76, ↓pt_76, ↓at_78, ↓pt_78, ↓at_79, ↓pt_79, ↓at_80, ↓pt_80, ↓at_81, ↓pt_81, ↓at_82, ↓pt_82, ↓at_83, ↓pt_83, ↓at_85, ↓pt_85, ↓at_86, ↓pt_86, ↓at_87, ↓pt_87, ↓at_88, ↓pt_88, ↓at_89, ↓pt_89, ↓at_91, ↓pt_91, ↓at_95, ↓pt_95, ↓rd_217, ↓wr_217, ↓ln_217, ↓rd_218, ↓wr_218, ↓ln_218, ↓rd_219, ↓wr_219, ↓ln_219, ↓rd_220, ↓wr_220, ↓ln_220, ↓rd_221, ↓wr_221, ↓ln_221, ↓rd_222, ↓wr_222, ↓ln_222, ↓rd_223, ↓wr_223, ↓ln_223, ↓rd_224, ↓wr_224, ↓ln_224, ↓rd_225, ↓wr_225, ↓ln_225, ↓rd_226, ↓wr_226, ↓ln_226, ↓rd_227, ↓wr_227, ↓ln_227, ↓rd_228, ↓wr_228, ↓ln_228, ↓rd_229, ↓wr_229, ↓ln_229, ↓rd_230, ↓wr_230, ↓ln_230, ↓rd_231, ↓wr_231, ↓ln_231, ↓rd_232, ↓wr_232, ↓ln_232, ↓rd_233, ↓wr_233, ↓ln_233, ↓rd_234, ↓wr_234, ↓ln_234, ↓rd_235, ↓wr_235, ↓ln_235, ↓rd_236, ↓wr_236, ↓ln_236, ↓rd_237, ↓wr_237, ↓ln_237, ↓rd_238, ↓wr_238, ↓ln_238, ↓rd_239, ↓wr_239, ↓ln_239, ↓rd_240, ↓wr_240, ↓ln_240, ↓rd_241, ↓wr_241, ↓ln_241, ↓rd_242, ↓wr_242, ↓ln_242, ↓rd_243, ↓wr_243, ↓ln_243, ↓gR_64_0, ↓gR_64_1, ↓gR_64_2, ↓gR_64_3, ↓gR_64_4, ↓gR_64_5, ↓gR_64_6, ↓gR_64_7, ↓gR_64_8, ↓gR_64_9, ↓gR_64_10, ↓gR_65_0, ↓gR_67_0, ↓gR_67_1, ↓gR_70_0, ↓gR_70_1, ↓gR_73_0, ↓gR_73_1, ↓gR_73_2, ↓gR_77_3, ↓gR_77_4, ↓gR_77_7, ↓gR_77_8, ↓gR_77_9, ↓gR_77_10, ↓gR_84_0, ↓gR_84_1, ↓gR_84_2, ↓gR_84_3, ↓gR_84_4, ↓gR_90_1, ↓gR_216_1, ↓gR_216_4, ↓gR_216_5, ↓gR_216_6, ↓gR_216_9, ↓gR_216_10, ↓gR_216_11, ↓gR_216_12, ↓gR_216_14, ↓gR_216_15, ↓gR_216_16, ↓gR_216_17, ↓gR_216_22, ↓gR_216_23, ↓gR_216_24, ↓gR_216_25, ↓gR_216_27, ↓gR_216_28, ↓gR_216_29, ↓gR_216_31, ↓gR_216_35, ↓gR_216_36, ↓gR_216_37, ↓gR_216_38, ↓gR_216_39, ↓gR_216_43, ↓gR_64_11, ↓gR_64_12, ↓gR_64_13, ↓gR_64_14, ↓gQ_65, ↓gI_A, ↓gL_A, ↓pI_A, ↓pL_A, ↓vv_A, ↓gI_Lw, ↓gL_Lw, ↓pI_Lw, ↓pL_Lw, ↓vv_Lw, ↓gR_A_7, ↓gR_A_8, ↓gR_A_9, ↓gR_A_10, ↓gR_A_11, ↓gR_A_12, ↓gR_A_13, ↓gR_A_14, ↓gR_A_15, ↓gR_A_16, ↓gR_A_17, ↓gR_Lw_0, ↓gR_Lw_1, ↓gR_Lw_2, ↓gR_Lw_3, ↓gR_Lw_4, ↓at_A1, ↓pt_A1, ↓at_A2, ↓pt_A2, ↓at_A3, ↓pt_A3, ↓at_A4, ↓pt_A4, ↓at_A5, ↓pt_A5, ↓at_A6, ↓pt_A6, ↓rd_A7, ↓wr_A7, ↓ln_A7, ↓rd_A8, ↓wr_A8, ↓ln_A8, ↓at_A9, ↓pt_A9, ↓at_A10, ↓pt_A10, ↓at_A12, ↓pt_A12, ↓at_A13, ↓pt_A13, ↓at_A14, ↓pt_A14, ↓at_A15, ↓pt_A15, ↓at_A16, ↓pt_A16, ↓gI_W, ↓gL_W, ↓pI_W, ↓pL_W, ↓vv_W, ↓gR_W_1, ↓gR_W_2, ↓gR_W_3, ↓gR_W_4, ↓at_W1, ↓pt_W1, ↓at_W2, ↓pt_W2, ↓at_W3, ↓pt_W3, ↓at_W4, ↓pt_W4, ↓rdR_92, ↓rdR_93, ↓rdR_94, ↓gI_S, ↓gL_S, ↓pI_S, ↓pL_S, ↓vv_S, ↓gR_S_0, ↓gR_S_1, ↓at_S1, ↓pt_S1, ↓at_S2, ↓pt_S2, ↓gI_N, ↓gL_N, ↓pI_N, ↓pL_N, ↓vv_N, ↓gR_N_0, ↓gR_N_1, ↓gR_N_2, ↓at_N1, ↓pt_N1, ↓at_N2, ↓pt_N2, ↓at_N3, ↓pt_N3, ↓pB_S, ↓pB_S0, ↓pB_S1, ↓pB_770, ↓pB_771, ↓at_6, ↓pt_6, ↓atN, ↓ptN, ↓cS, ↓bS, ↓zol, ↓zrb, ↓zrb0, ↓zrb1, ↓reduceIte, z32_s, z32_n, zb_test, zn_add, zn_mul, zn_addN, zn_sub, zU_ne, zU_eq, zU_at, zV_ne, zV_eq, zV_at, p_le, p_nle, p_lt, p_nlt, p_eq, p_neq, p_eqN, p_leN, p_ltN, p_Nle, p_Nlt, p_Neq, p_zt0, p_zt1, eq_self, Nat.reduceAdd, Nat.reduceMul, Nat.reduceSub, Nat.reduceEqDiff, Nat.reduceLT, Nat.reduceLeDiff, if_true, if_false, Bool.false_eq_true, not_true_eq_false, not_false_eq_true, reduceCtorEq]
  have fem : ∀ I3 u3 I4, I4 = zU (zU (zU I3 223 (1100 + u3) (zn 0)) 224 (1100 + u3) (zn 0)) 216 13 (zn (u3 + 1)) → zFm I2 I3 → zFA I J I4 J := by
    intro I3 u3 I4 hI4 f3
    obtain ⟨m1, _, _⟩ := emit_m hI4
    have f24 := f3.tr m1
    exact fa2.tr ⟨f24.1.mono (by intro o9 ho9; simp only [List.mem_cons, List.not_mem_nil, or_false] at ho9 ⊢; omega), fun k' a b c _ _ _ => f24.2.1 k' a b c, fun k' _ => by rw [f24.1 222 (by simp only [List.mem_cons, List.not_mem_nil, or_false, not_or] <;> omega)], fun k' hk' => f24.2.2 k' hk', fun _ _ => rfl⟩
  cases hr : zall q N 5 M with
  | error F =>
    rw [hr] at qa
    obtain ⟨q0, I3, k3, u3, a1, a2, a3, a4, a5, a6⟩ := qa
    dsimp only at a1
    have hk3 := a2.2.1
    refine ⟨_, fin I3 u3 a1 a5 (by omega), fem I3 u3 _ rfl a4, q0, k3, a2.em rfl⟩
  | ok p =>
    obtain ⟨L1, c⟩ := p
    have hsm := zsm_all _ _ _ _ _ _ hr
    rw [hr] at qa
    obtain ⟨I3, k3, a1, a2, a3, a4, a5, a6, a7, a8⟩ := qa
    dsimp only at a1 a3 a6 a7
    obtain ⟨I4, hI4⟩ : ∃ I4, I4 = zU (zU (zU I3 223 (1100 + (u + c.length)) (zn 0)) 224 (1100 + (u + c.length)) (zn 0)) 216 13 (zn (u + c.length + 1)) := ⟨_, rfl⟩
    obtain ⟨m1, m3, m4, m5, m6⟩ := emit_m hI4
    have ev := fin I3 (u + c.length) a1 a6 (by omega)
    rw [← hI4] at ev
    rw [zbn_ok]
    refine ⟨I4, ev, fem I3 (u + c.length) I4 hI4 a5, ⟨k3, a2.em hI4, a3⟩, u + c.length + 1, ?_, by show u + c.length + 1 + L1.length ≤ 1000; omega⟩
    have f24 := a5.tr m1
    refine zDm.law (I := I1) (D := zD1 D i) (q := i) (l := c) hD1 hi hc1 (fun k' hk' => ?_) ?_ (fun j hj => ?_) ?_ ?_ ?_ ?_ ?_ m3
    · rw [f24.1 222 (by simp only [List.mem_cons, List.not_mem_nil, or_false, not_or] <;> omega), hI2, zU_ne (by decide), zU_ne2 hk']
    · rw [f24.1 222 (by simp only [List.mem_cons, List.not_mem_nil, or_false, not_or] <;> omega), hI2, zU_ne (by decide), zU_eq]
    · obtain ⟨b1, b2⟩ := m4 j (by omega)
      obtain ⟨b3, b4⟩ := a8 j (by omega)
      rw [b1, b2, b3, b4, hI2, zU_ne (by decide), zU_ne (by decide), zU_ne (by decide), zU_ne (by decide)]
      exact ⟨rfl, rfl⟩
    · rw [show 1100 + u + c.length = 1100 + (u + c.length) from by omega]; exact m5
    · rw [← hq]
      exact zcm_fr a7 (fun j hj => m4 j (by omega))
    · rw [f24.1 228 (by simp only [List.mem_cons, List.not_mem_nil, or_false, not_or] <;> omega), hI2, zU_ne (by decide), zU_ne (by decide)]
    · rw [f24.2.1 20 (by decide) (by decide) (by decide), hI2, zU_ne2 (by decide), zU_ne (by decide)]
    · rw [f24.2.1 19 (by decide) (by decide) (by decide), hI2, zU_ne2 (by decide), zU_ne (by decide)]
theorem monce_r {L : List zTo} (hD : zDw D) (hc : zDm I J D u) (h : zSs I J N K (.ok L)) (hu : u + L.length ≤ 1000) (hL : L ≠ []) (n0 : ¬ zws L = some 0) (n1 : ¬ zws L = some 1) : ∃ I', zm_readOnce sc 216 (zG I J r) = some ((), zG I' J r) ∧ zFA I J I' J ∧ (match zal0 N D L with
    | .error F => zSs I' J N K (.error F)
    | .ok p => zSs I' J N K (.ok p.1) ∧ ∃ u', zDm I' J p.2 u' ∧ u' + p.1.length ≤ 1000) := by
  have ez : zal0 N D L = match zwh L 1 with
    | none => .error (zer 1 N L)
    | some i => if D.2.2 i then .error (zer 3 N L) else zon N i (zD1 D i) L.tail := by
    unfold zal0
    rw [if_neg n0, if_neg n1]
    rfl
  rw [ez]
  have h' := h
  obtain ⟨k, g1, g2⟩ := h'
  have ew := misWord_e (sc := sc) (r := r) g1 (i := 7) (by decide)
  have eh := mwordHere_e (sc := sc) (r := r) g1 (fr := 9) (n := 6) (by decide)
  rw [← g2] at ew eh
  have e14 : zsg.getD 7 0 = 14 := by decide
  rw [e14] at ew
  cases hz : zwh L 1 with
  | none =>
    have nw : ¬ zws L = some 14 := fun q => by
      have := zws_11 q
      rw [if_pos (by decide), hz] at this
      cases this
    rw [decide_eq_false nw] at ew
    have eh' : zm_wordHere sc 216 (zn 9) (zn 6) (zG I J r) = some (zN, zG I J r) := by
      rw [eh]
      cases hw : zws L with
      | none => rfl
      | some w =>
        have h1 := zws_11 hw
        rw [hz] at h1
        have hnot : ¬ (11 ≤ w ∧ w < 18) := fun q => by rw [if_pos q] at h1; cases h1
        rw [zwf_96 w (zws_lt hw), if_neg (by omega), if_neg (by omega)]
        rfl
    obtain ⟨I1, q1, q2, q3⟩ := mwrong_s (sc := sc) (r := r) h (x := 1) (by decide) (by decide)
    obtain ⟨p0, kk, p1⟩ := q2
    have eb := zoB_F (sc := sc) (r := r) p1 p0 (zn 0)
    have eN : zN + zn 1 = zn 0 := by decide
    refine ⟨I1, ?_, q3.fa, p0, kk, p1⟩
    rw [um_once, zov rfl, zoc ew, zt_f, zol]
    (try dsimp only)
    rw [if_pos rfl, zov rfl, zoc eh']
    (try dsimp only)
    rw [eN, if_pos rfl, zov rfl, zoc ew, zt_f, if_pos rfl, zov rfl, zoc q1]
    exact eb
  | some i =>
    have hi := zwh_34.2.2 hz
    have hws := zws_1 hz
    dsimp only
    have hbit := hc.2.2.2.1 i hi
    -- how it comes to what follows
    have go : zm_readOnce sc 216 (zG I J r) = zoA sc 216 (zn ((i + 4) % 7)) (zG I J r) := by
      by_cases c3 : i = 3
      · subst c3
        rw [decide_eq_true hws] at ew
        rw [um_once, zov rfl, zoc ew, zt_t, zol]
        (try dsimp only)
        rw [if_neg (by decide)]
        (try dsimp only)
        rw [if_pos rfl, zov rfl, zoc ew, zt_t, if_neg (by decide)]
      · have nw : ¬ zws L = some 14 := fun q => by rw [hws] at q; have := Option.some.inj q; omega
        rw [decide_eq_false nw] at ew
        have eh' : zm_wordHere sc 216 (zn 9) (zn 6) (zG I J r) = some (zn ((i + 4) % 7 - 1), zG I J r) := by
          rw [eh, hws, zwf_96 (11 + i) (by omega)]
          by_cases c : i < 3
          · rw [if_pos (by omega), z32_s]
            congr 3
            omega
          · rw [if_neg (by omega), if_pos (by omega), z32_s]
            congr 3
            omega
        have eN : zn ((i + 4) % 7 - 1) + zn 1 = zn ((i + 4) % 7) := by rw [zn_add]; congr 1; omega
        have hne : ¬ zn ((i + 4) % 7) = zn 0 := by rw [zn_eq (by omega) (by omega)]; omega
        rw [um_once, zov rfl, zoc ew, zt_f, zol]
        (try dsimp only)
        rw [if_pos rfl, zov rfl, zoc eh']
        (try dsimp only)
        rw [eN, if_neg hne]
    rw [go]
    have ebit : (I 216 20 >>> (zn ((i + 4) % 7) &&& 31)) &&& zn 1 = zt (D.2.2 i) := by rw [zb_test _ _ (by omega), hbit]
    cases ht : D.2.2 i with
    | true =>
      rw [ht] at ebit
      rw [if_pos rfl]
      obtain ⟨I1, q1, q2, q3⟩ := mwrong_s (sc := sc) (r := r) h (x := 3) (by decide) (by decide)
      obtain ⟨p0, kk, p1⟩ := q2
      have eb := zoB_F (sc := sc) (r := r) p1 p0 (zn ((i + 4) % 7))
      refine ⟨I1, ?_, q3.fa, p0, kk, p1⟩
      unfold zoA
      rw [gI_216, if_pos (by rw [ebit]; rfl), zov rfl, zoc q1]
      exact eb
    | false =>
      rw [ht] at ebit
      rw [if_neg (by decide)]
      have eA : zoA sc 216 (zn ((i + 4) % 7)) (zG I J r) = zoB sc 216 (zn ((i + 4) % 7)) (zG I J r) := by
        unfold zoA
        rw [gI_216, if_neg (by rw [ebit]; decide)]
      rw [eA]
      obtain ⟨t, M, rfl⟩ := zwh_c hz
      have hu' : u + M.length ≤ 1000 := by rw [List.length_cons] at hu; omega
      by_cases c3 : i < 3
      · exact monce_l (sc := sc) (r := r) c3 hD hc h hu
      · by_cases c4 : i = 3
        · subst c4
          exact monce_f (sc := sc) (r := r) hD hc h hu'
        · have e5 : zon N i (zD1 D i) M = (if i = 4 then zbn (znb N 0 999 M) (fun L1 x => .ok (L1, (zAf D.1 2 x, (zD1 D i).2))) else if i = 5 then zbn (znb N 1 13 M) (fun L1 x => .ok (L1, (zAf D.1 3 x, (zD1 D i).2))) else zbn (znb N 0 99 M) (fun L1 x => .ok (L1, (zAf D.1 4 x, (zD1 D i).2)))) := by
            unfold zon
            rw [if_neg c3, if_neg c4]
            rfl
          rcases (by omega : i = 4 ∨ i = 5 ∨ i = 6) with rfl | rfl | rfl
          · refine monce_n (sc := sc) (r := r) (lo := 0) (hi := 999) (by decide) (by decide) (by decide) (by decide) hD hc h hu' (by rw [e5, if_pos rfl]) (fun I1 I2 y k k1 k2 k3 hI1 e => ?_)
            rw [hI1] at e
            have e' : zm_takeNumber sc 216 (zn 0) (zn 999) (zG (zU (zU I 216 20 (I 216 20 ||| (zn 1 <<< (zn 1 &&& 31)))) 216 7 (zn (k + 1))) J r) = some (zn y, zG I2 J r) := e
            show zoB sc 216 (zn 1) (zG I J r) = some ((), zG (zU I2 222 54 (zn y)) J r)
            unfold zoB
            simp (disch := first | assumption | omega) only [k1, k3, ↓zoc e', ↓gI_64, ↓gL_64, ↓pI_64, ↓pL_64, ↓vv_64, ↓gI_65, ↓gL_65, ↓pI_65, ↓pL_65, ↓vv_65, ↓gI_67, ↓gL_67, ↓pI_67, ↓pL_67, ↓vv_67, ↓gI_70, ↓gL_70, ↓pI_70, ↓pL_70, ↓vv_70, ↓gI_73, ↓gL_73, ↓pI_73, ↓pL_73, ↓vv_73, ↓gI_77, ↓gL_77, ↓pI_77, ↓pL_77, ↓vv_77, ↓gI_84, ↓gL_84, ↓pI_84, ↓pL_84, ↓vv_84, ↓gI_90, ↓gL_90, ↓pI_90, ↓pL_90, ↓vv_90, ↓gI_216, ↓gL_216, ↓pI_216, ↓pL_216, ↓vv_216, ↓rd_66, ↓wr_66, ↓ln_66, ↓at_68, ↓pt_68, ↓at_69, ↓pt_69, ↓at_71, ↓pt_71, ↓at_72, ↓pt_72, ↓at_74, ↓pt_74, ↓at_75, ↓pt_75, ↓at_76, ↓pt_76, ↓at_78, ↓pt_78, ↓at_79, ↓pt_79, ↓at_80, ↓pt_80, ↓at_81, ↓pt_81, ↓at_82, ↓pt_82, ↓at_83, ↓pt_83, ↓at_85, ↓pt_85, ↓at_86, ↓pt_86, ↓at_87, ↓pt_87, ↓at_88, ↓pt_88, ↓at_89, ↓pt_89, ↓at_91, ↓pt_91, ↓at_95, ↓pt_95, ↓rd_217, ↓wr_217, ↓ln_217, ↓rd_218, ↓wr_218, ↓ln_218, ↓rd_219, ↓wr_219, ↓ln_219, ↓rd_220, ↓wr_220, ↓ln_220, ↓rd_221, ↓wr_221, ↓ln_221, ↓rd_222, ↓wr_222, ↓ln_222, ↓rd_223, ↓wr_223, ↓ln_223, ↓rd_224, ↓wr_224, ↓ln_224, ↓rd_225, ↓wr_225, ↓ln_225, ↓rd_226, ↓wr_226, ↓ln_226, ↓rd_227, ↓wr_227, ↓ln_227, ↓rd_228, ↓wr_228, ↓ln_228, ↓rd_229, ↓wr_229, ↓ln_229, ↓rd_230, ↓wr_230, ↓ln_230, ↓rd_231, ↓wr_231, ↓ln_231, ↓rd_232, ↓wr_232, ↓ln_232, ↓rd_233, ↓wr_233, ↓ln_233, ↓rd_234, ↓wr_234, ↓ln_234, ↓rd_235, ↓wr_235, ↓ln_235, ↓rd_236, ↓wr_236, ↓ln_236, ↓rd_237, ↓wr_237, ↓ln_237, ↓rd_238, ↓wr_238, ↓ln_238, ↓rd_239, ↓wr_239, ↓ln_239, ↓rd_240, ↓wr_240, ↓ln_240, ↓rd_241, ↓wr_241, ↓ln_241, ↓rd_242, ↓wr_242, ↓ln_242, ↓rd_243, ↓wr_243, ↓ln_243, ↓gR_64_0, ↓gR_64_1, ↓gR_64_2, ↓gR_64_3, ↓gR_64_4, ↓gR_64_5, ↓gR_64_6, ↓gR_64_7, ↓gR_64_8, ↓gR_64_9, ↓gR_64_10, ↓gR_65_0, ↓gR_67_0, ↓gR_67_1, ↓gR_70_0, ↓gR_70_1, ↓gR_73_0, ↓gR_73_1, ↓gR_73_2, ↓gR_77_3, ↓gR_77_4, ↓gR_77_7, ↓gR_77_8, ↓gR_77_9, ↓gR_77_10, ↓gR_84_0, ↓gR_84_1, ↓gR_84_2, ↓gR_84_3, ↓gR_84_4, ↓gR_90_1, ↓gR_216_1, ↓gR_216_4, ↓gR_216_5, ↓gR_216_6, ↓gR_216_9, ↓gR_216_10, ↓gR_216_11, ↓gR_216_12, ↓gR_216_14, ↓gR_216_15, ↓gR_216_16, ↓gR_216_17, ↓gR_216_22, ↓gR_216_23, ↓gR_216_24, ↓gR_216_25, ↓gR_216_27, ↓gR_216_28, ↓gR_216_29, ↓gR_216_31, ↓gR_216_35, ↓gR_216_36, ↓gR_216_37, ↓gR_216_38, ↓gR_216_39, ↓gR_216_43, ↓gR_64_11, ↓gR_64_12, ↓gR_64_13, ↓gR_64_14, ↓gQ_65, ↓gI_A, ↓gL_A, ↓pI_A, ↓pL_A, ↓vv_A, ↓gI_Lw, ↓gL_Lw, ↓pI_Lw, ↓pL_Lw, ↓vv_Lw, ↓gR_A_7, ↓gR_A_8, ↓gR_A_9, ↓gR_A_10, ↓gR_A_11, ↓gR_A_12, ↓gR_A_13, ↓gR_A_14, ↓gR_A_15, ↓gR_A_16, ↓gR_A_17, ↓gR_Lw_0, ↓gR_Lw_1, ↓gR_Lw_2, ↓gR_Lw_3, ↓gR_Lw_4, ↓at_A1, ↓pt_A1, ↓at_A2, ↓pt_A2, ↓at_A3, ↓pt_A3, ↓at_A4, ↓pt_A4, ↓at_A5, ↓pt_A5, ↓at_A6, ↓pt_A6, ↓rd_A7, ↓wr_A7, ↓ln_A7, ↓rd_A8, ↓wr_A8, ↓ln_A8, ↓at_A9, ↓pt_A9, ↓at_A10, ↓pt_A10, ↓at_A12, ↓pt_A12, ↓at_A13, ↓pt_A13, ↓at_A14, ↓pt_A14, ↓at_A15, ↓pt_A15, ↓at_A16, ↓pt_A16, ↓gI_W, ↓gL_W, ↓pI_W, ↓pL_W, ↓vv_W, ↓gR_W_1, ↓gR_W_2, ↓gR_W_3, ↓gR_W_4, ↓at_W1, ↓pt_W1, ↓at_W2, ↓pt_W2, ↓at_W3, ↓pt_W3, ↓at_W4, ↓pt_W4, ↓rdR_92, ↓rdR_93, ↓rdR_94, ↓gI_S, ↓gL_S, ↓pI_S, ↓pL_S, ↓vv_S, ↓gR_S_0, ↓gR_S_1, ↓at_S1, ↓pt_S1, ↓at_S2, ↓pt_S2, ↓gI_N, ↓gL_N, ↓pI_N, ↓pL_N, ↓vv_N, ↓gR_N_0, ↓gR_N_1, ↓gR_N_2, ↓at_N1, ↓pt_N1, ↓at_N2, ↓pt_N2, ↓at_N3, ↓pt_N3, ↓pB_S, ↓pB_S0, ↓pB_S1, ↓pB_770, ↓pB_771, ↓at_6, ↓pt_6, ↓atN, ↓ptN, ↓cS, ↓bS, ↓zol, ↓zrb, ↓zrb0, ↓zrb1, ↓reduceIte, z32_s, z32_n, zb_test, zn_add, zn_mul, zn_addN, zn_sub, zU_ne, zU_eq, zU_at, zV_ne, zV_eq, zV_at, p_le, p_nle, p_lt, p_nlt, p_eq, p_neq, p_eqN, p_leN, p_ltN, p_Nle, p_Nlt, p_Neq, p_zt0, p_zt1, eq_self, Nat.reduceAdd, Nat.reduceMul, Nat.reduceSub, Nat.reduceEqDiff, Nat.reduceLT, Nat.reduceLeDiff, if_true, if_false, Bool.false_eq_true, not_true_eq_false, not_false_eq_true, reduceCtorEq]
          · refine monce_n (sc := sc) (r := r) (lo := 1) (hi := 13) (by decide) (by decide) (by decide) (by decide) hD hc h hu' (by rw [e5, if_neg (by decide), if_pos rfl]) (fun I1 I2 y k k1 k2 k3 hI1 e => ?_)
            rw [hI1] at e
            have e' : zm_takeNumber sc 216 (zn 1) (zn 13) (zG (zU (zU I 216 20 (I 216 20 ||| (zn 1 <<< (zn 2 &&& 31)))) 216 7 (zn (k + 1))) J r) = some (zn y, zG I2 J r) := e
            show zoB sc 216 (zn 2) (zG I J r) = some ((), zG (zU I2 222 55 (zn y)) J r)
            unfold zoB
            simp (disch := first | assumption | omega) only [k1, k3, ↓zoc e', ↓gI_64, ↓gL_64, ↓pI_64, ↓pL_64, ↓vv_64, ↓gI_65, ↓gL_65, ↓pI_65, ↓pL_65, ↓vv_65, ↓gI_67, ↓gL_67, ↓pI_67, ↓pL_67, ↓vv_67, ↓gI_70, ↓gL_70, ↓pI_70, ↓pL_70, ↓vv_70, ↓gI_73, ↓gL_73, ↓pI_73, ↓pL_73, ↓vv_73, ↓gI_77, ↓gL_77, ↓pI_77, ↓pL_77, ↓vv_77, ↓gI_84, ↓gL_84, ↓pI_84, ↓pL_84, ↓vv_84, ↓gI_90, ↓gL_90, ↓pI_90, ↓pL_90, ↓vv_90, ↓gI_216, ↓gL_216, ↓pI_216, ↓pL_216, ↓vv_216, ↓rd_66, ↓wr_66, ↓ln_66, ↓at_68, ↓pt_68, ↓at_69, ↓pt_69, ↓at_71, ↓pt_71, ↓at_72, ↓pt_72, ↓at_74, ↓pt_74, ↓at_75, ↓pt_75, ↓at_76, ↓pt_76, ↓at_78, ↓pt_78, ↓at_79, ↓pt_79, ↓at_80, ↓pt_80, ↓at_81, ↓pt_81, ↓at_82, ↓pt_82, ↓at_83, ↓pt_83, ↓at_85, ↓pt_85, ↓at_86, ↓pt_86, ↓at_87, ↓pt_87, ↓at_88, ↓pt_88, ↓at_89, ↓pt_89, ↓at_91, ↓pt_91, ↓at_95, ↓pt_95, ↓rd_217, ↓wr_217, ↓ln_217, ↓rd_218, ↓wr_218, ↓ln_218, ↓rd_219, ↓wr_219, ↓ln_219, ↓rd_220, ↓wr_220, ↓ln_220, ↓rd_221, ↓wr_221, ↓ln_221, ↓rd_222, ↓wr_222, ↓ln_222, ↓rd_223, ↓wr_223, ↓ln_223, ↓rd_224, ↓wr_224, ↓ln_224, ↓rd_225, ↓wr_225, ↓ln_225, ↓rd_226, ↓wr_226, ↓ln_226, ↓rd_227, ↓wr_227, ↓ln_227, ↓rd_228, ↓wr_228, ↓ln_228, ↓rd_229, ↓wr_229, ↓ln_229, ↓rd_230, ↓wr_230, ↓ln_230, ↓rd_231, ↓wr_231, ↓ln_231, ↓rd_232, ↓wr_232, ↓ln_232, ↓rd_233, ↓wr_233, ↓ln_233, ↓rd_234, ↓wr_234, ↓ln_234, ↓rd_235, ↓wr_235, ↓ln_235, ↓rd_236, ↓wr_236, ↓ln_236, ↓rd_237, ↓wr_237, ↓ln_237, ↓rd_238, ↓wr_238, ↓ln_238, ↓rd_239, ↓wr_239, ↓ln_239, ↓rd_240, ↓wr_240, ↓ln_240, ↓rd_241, ↓wr_241, ↓ln_241, ↓rd_242, ↓wr_242, ↓ln_242, ↓rd_243, ↓wr_243, ↓ln_243, ↓gR_64_0, ↓gR_64_1, ↓gR_64_2, ↓gR_64_3, ↓gR_64_4, ↓gR_64_5, ↓gR_64_6, ↓gR_64_7, ↓gR_64_8, ↓gR_64_9, ↓gR_64_10, ↓gR_65_0, ↓gR_67_0, ↓gR_67_1, ↓gR_70_0, ↓gR_70_1, ↓gR_73_0, ↓gR_73_1, ↓gR_73_2, ↓gR_77_3, ↓gR_77_4, ↓gR_77_7, ↓gR_77_8, ↓gR_77_9, ↓gR_77_10, ↓gR_84_0, ↓gR_84_1, ↓gR_84_2, ↓gR_84_3, ↓gR_84_4, ↓gR_90_1, ↓gR_216_1, ↓gR_216_4, ↓gR_216_5, ↓gR_216_6, ↓gR_216_9, ↓gR_216_10, ↓gR_216_11, ↓gR_216_12, ↓gR_216_14, ↓gR_216_15, ↓gR_216_16, ↓gR_216_17, ↓gR_216_22, ↓gR_216_23, ↓gR_216_24, ↓gR_216_25, ↓gR_216_27, ↓gR_216_28, ↓gR_216_29, ↓gR_216_31, ↓gR_216_35, ↓gR_216_36, ↓gR_216_37, ↓gR_216_38, ↓gR_216_39, ↓gR_216_43, ↓gR_64_11, ↓gR_64_12, ↓gR_64_13, ↓gR_64_14, ↓gQ_65, ↓gI_A, ↓gL_A, ↓pI_A, ↓pL_A, ↓vv_A, ↓gI_Lw, ↓gL_Lw, ↓pI_Lw, ↓pL_Lw, ↓vv_Lw, ↓gR_A_7, ↓gR_A_8, ↓gR_A_9, ↓gR_A_10, ↓gR_A_11, ↓gR_A_12, ↓gR_A_13, ↓gR_A_14, ↓gR_A_15, ↓gR_A_16, ↓gR_A_17, ↓gR_Lw_0, ↓gR_Lw_1, ↓gR_Lw_2, ↓gR_Lw_3, ↓gR_Lw_4, ↓at_A1, ↓pt_A1, ↓at_A2, ↓pt_A2, ↓at_A3, ↓pt_A3, ↓at_A4, ↓pt_A4, ↓at_A5, ↓pt_A5, ↓at_A6, ↓pt_A6, ↓rd_A7, ↓wr_A7, ↓ln_A7, ↓rd_A8, ↓wr_A8, ↓ln_A8, ↓at_A9, ↓pt_A9, ↓at_A10, ↓pt_A10, ↓at_A12, ↓pt_A12, ↓at_A13, ↓pt_A13, ↓at_A14, ↓pt_A14, ↓at_A15, ↓pt_A15, ↓at_A16, ↓pt_A16, ↓gI_W, ↓gL_W, ↓pI_W, ↓pL_W, ↓vv_W, ↓gR_W_1, ↓gR_W_2, ↓gR_W_3, ↓gR_W_4, ↓at_W1, ↓pt_W1, ↓at_W2, ↓pt_W2, ↓at_W3, ↓pt_W3, ↓at_W4, ↓pt_W4, ↓rdR_92, ↓rdR_93, ↓rdR_94, ↓gI_S, ↓gL_S, ↓pI_S, ↓pL_S, ↓vv_S, ↓gR_S_0, ↓gR_S_1, ↓at_S1, ↓pt_S1, ↓at_S2, ↓pt_S2, ↓gI_N, ↓gL_N, ↓pI_N, ↓pL_N, ↓vv_N, ↓gR_N_0, ↓gR_N_1, ↓gR_N_2, ↓at_N1, ↓pt_N1, ↓at_N2, ↓pt_N2, ↓at_N3, ↓pt_N3, ↓pB_S, ↓pB_S0, ↓pB_S1, ↓pB_770, ↓pB_771, ↓at_6, ↓pt_6, ↓atN, ↓ptN, ↓cS, ↓bS, ↓zol, ↓zrb, ↓zrb0, ↓zrb1, ↓reduceIte, z32_s, z32_n, zb_test, zn_add, zn_mul, zn_addN, zn_sub, zU_ne, zU_eq, zU_at, zV_ne, zV_eq, zV_at, p_le, p_nle, p_lt, p_nlt, p_eq, p_neq, p_eqN, p_leN, p_ltN, p_Nle, p_Nlt, p_Neq, p_zt0, p_zt1, eq_self, Nat.reduceAdd, Nat.reduceMul, Nat.reduceSub, Nat.reduceEqDiff, Nat.reduceLT, Nat.reduceLeDiff, if_true, if_false, Bool.false_eq_true, not_true_eq_false, not_false_eq_true, reduceCtorEq]
          · refine monce_n (sc := sc) (r := r) (lo := 0) (hi := 99) (by decide) (by decide) (by decide) (by decide) hD hc h hu' (by rw [e5, if_neg (by decide), if_neg (by decide)]) (fun I1 I2 y k k1 k2 k3 hI1 e => ?_)
            rw [hI1] at e
            have e' : zm_takeNumber sc 216 (zn 0) (zn 99) (zG (zU (zU I 216 20 (I 216 20 ||| (zn 1 <<< (zn 3 &&& 31)))) 216 7 (zn (k + 1))) J r) = some (zn y, zG I2 J r) := e
            show zoB sc 216 (zn 3) (zG I J r) = some ((), zG (zU I2 222 56 (zn y)) J r)
            unfold zoB
            simp (disch := first | assumption | omega) only [k1, k3, ↓zoc e', ↓gI_64, ↓gL_64, ↓pI_64, ↓pL_64, ↓vv_64, ↓gI_65, ↓gL_65, ↓pI_65, ↓pL_65, ↓vv_65, ↓gI_67, ↓gL_67, ↓pI_67, ↓pL_67, ↓vv_67, ↓gI_70, ↓gL_70, ↓pI_70, ↓pL_70, ↓vv_70, ↓gI_73, ↓gL_73, ↓pI_73, ↓pL_73, ↓vv_73, ↓gI_77, ↓gL_77, ↓pI_77, ↓pL_77, ↓vv_77, ↓gI_84, ↓gL_84, ↓pI_84, ↓pL_84, ↓vv_84, ↓gI_90, ↓gL_90, ↓pI_90, ↓pL_90, ↓vv_90, ↓gI_216, ↓gL_216, ↓pI_216, ↓pL_216, ↓vv_216, ↓rd_66, ↓wr_66, ↓ln_66, ↓at_68, ↓pt_68, ↓at_69, ↓pt_69, ↓at_71, ↓pt_71, ↓at_72, ↓pt_72, ↓at_74, ↓pt_74, ↓at_75, ↓pt_75, ↓at_76, ↓pt_76, ↓at_78, ↓pt_78, ↓at_79, ↓pt_79, ↓at_80, ↓pt_80, ↓at_81, ↓pt_81, ↓at_82, ↓pt_82, ↓at_83, ↓pt_83, ↓at_85, ↓pt_85, ↓at_86, ↓pt_86, ↓at_87, ↓pt_87, ↓at_88, ↓pt_88, ↓at_89, ↓pt_89, ↓at_91, ↓pt_91, ↓at_95, ↓pt_95, ↓rd_217, ↓wr_217, ↓ln_217, ↓rd_218, ↓wr_218, ↓ln_218, ↓rd_219, ↓wr_219, ↓ln_219, ↓rd_220, ↓wr_220, ↓ln_220, ↓rd_221, ↓wr_221, ↓ln_221, ↓rd_222, ↓wr_222, ↓ln_222, ↓rd_223, ↓wr_223, ↓ln_223, ↓rd_224, ↓wr_224, ↓ln_224, ↓rd_225, ↓wr_225, ↓ln_225, ↓rd_226, ↓wr_226, ↓ln_226, ↓rd_227, ↓wr_227, ↓ln_227, ↓rd_228, ↓wr_228, ↓ln_228, ↓rd_229, ↓wr_229, ↓ln_229, ↓rd_230, ↓wr_230, ↓ln_230, ↓rd_231, ↓wr_231, ↓ln_231, ↓rd_232, ↓wr_232, ↓ln_232, ↓rd_233, ↓wr_233, ↓ln_233, ↓rd_234, ↓wr_234, ↓ln_234, ↓rd_235, ↓wr_235, ↓ln_235, ↓rd_236, ↓wr_236, ↓ln_236, ↓rd_237, ↓wr_237, ↓ln_237, ↓rd_238, ↓wr_238, ↓ln_238, ↓rd_239, ↓wr_239, ↓ln_239, ↓rd_240, ↓wr_240, ↓ln_240, ↓rd_241, ↓wr_241, ↓ln_241, ↓rd_242, ↓wr_242, ↓ln_242, ↓rd_243, ↓wr_243, ↓ln_243, ↓gR_64_0, ↓gR_64_1, ↓gR_64_2, ↓gR_64_3, ↓gR_64_4, ↓gR_64_5, ↓gR_64_6, ↓gR_64_7, ↓gR_64_8, ↓gR_64_9, ↓gR_64_10, ↓gR_65_0, ↓gR_67_0, ↓gR_67_1, ↓gR_70_0, ↓gR_70_1, ↓gR_73_0, ↓gR_73_1, ↓gR_73_2, ↓gR_77_3, ↓gR_77_4, ↓gR_77_7, ↓gR_77_8, ↓gR_77_9, ↓gR_77_10, ↓gR_84_0, ↓gR_84_1, ↓gR_84_2, ↓gR_84_3, ↓gR_84_4, ↓gR_90_1, ↓gR_216_1, ↓gR_216_4, ↓gR_216_5, ↓gR_216_6, ↓gR_216_9, ↓gR_216_10, ↓gR_216_11, ↓gR_216_12, ↓gR_216_14, ↓gR_216_15, ↓gR_216_16, ↓gR_216_17, ↓gR_216_22, ↓gR_216_23, ↓gR_216_24, ↓gR_216_25, ↓gR_216_27, ↓gR_216_28, ↓gR_216_29, ↓gR_216_31, ↓gR_216_35, ↓gR_216_36, ↓gR_216_37, ↓gR_216_38, ↓gR_216_39, ↓gR_216_43, ↓gR_64_11, ↓gR_64_12, ↓gR_64_13, ↓gR_64_14, ↓gQ_65, ↓gI_A, ↓gL_A, ↓pI_A, ↓pL_A, ↓vv_A, ↓gI_Lw, ↓gL_Lw, ↓pI_Lw, ↓pL_Lw, ↓vv_Lw, ↓gR_A_7, ↓gR_A_8, ↓gR_A_9, ↓gR_A_10, ↓gR_A_11, ↓gR_A_12, ↓gR_A_13, ↓gR_A_14, ↓gR_A_15, ↓gR_A_16, ↓gR_A_17, ↓gR_Lw_0, ↓gR_Lw_1, ↓gR_Lw_2, ↓gR_Lw_3, ↓gR_Lw_4, ↓at_A1, ↓pt_A1, ↓at_A2, ↓pt_A2, ↓at_A3, ↓pt_A3, ↓at_A4, ↓pt_A4, ↓at_A5, ↓pt_A5, ↓at_A6, ↓pt_A6, ↓rd_A7, ↓wr_A7, ↓ln_A7, ↓rd_A8, ↓wr_A8, ↓ln_A8, ↓at_A9, ↓pt_A9, ↓at_A10, ↓pt_A10, ↓at_A12, ↓pt_A12, ↓at_A13, ↓pt_A13, ↓at_A14, ↓pt_A14, ↓at_A15, ↓pt_A15, ↓at_A16, ↓pt_A16, ↓gI_W, ↓gL_W, ↓pI_W, ↓pL_W, ↓vv_W, ↓gR_W_1, ↓gR_W_2, ↓gR_W_3, ↓gR_W_4, ↓at_W1, ↓pt_W1, ↓at_W2, ↓pt_W2, ↓at_W3, ↓pt_W3, ↓at_W4, ↓pt_W4, ↓rdR_92, ↓rdR_93, ↓rdR_94, ↓gI_S, ↓gL_S, ↓pI_S, ↓pL_S, ↓vv_S, ↓gR_S_0, ↓gR_S_1, ↓at_S1, ↓pt_S1, ↓at_S2, ↓pt_S2, ↓gI_N, ↓gL_N, ↓pI_N, ↓pL_N, ↓vv_N, ↓gR_N_0, ↓gR_N_1, ↓gR_N_2, ↓at_N1, ↓pt_N1, ↓at_N2, ↓pt_N2, ↓at_N3, ↓pt_N3, ↓pB_S, ↓pB_S0, ↓pB_S1, ↓pB_770, ↓pB_771, ↓at_6, ↓pt_6, ↓atN, ↓ptN, ↓cS, ↓bS, ↓zol, ↓zrb, ↓zrb0, ↓zrb1, ↓reduceIte, z32_s, z32_n, zb_test, zn_add, zn_mul, zn_addN, zn_sub, zU_ne, zU_eq, zU_at, zV_ne, zV_eq, zV_at, p_le, p_nle, p_lt, p_nlt, p_eq, p_neq, p_eqN, p_leN, p_ltN, p_Nle, p_Nlt, p_Neq, p_zt0, p_zt1, eq_self, Nat.reduceAdd, Nat.reduceMul, Nat.reduceSub, Nat.reduceEqDiff, Nat.reduceLT, Nat.reduceLeDiff, if_true, if_false, Bool.false_eq_true, not_true_eq_false, not_false_eq_true, reduceCtorEq]
end ZO
