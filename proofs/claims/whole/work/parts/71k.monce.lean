/-! armies as told: the reference reads what is told once -/
def zoB (sc : zX) (x8 : Nat) (x9 : Int32) (h10 : zH) : Option (Unit × zH) := zo_b (zo_gI h10 10 x8 8) (fun v11 => if v11 ≤ (zn 0) then (zo_b (zo_gI h10 10 x8 20) (fun v14 => zo_b (zo_pI h10 10 x8 20 (v14 ||| ((zn 1) <<< (x9 &&& 31)))) (fun h16 => zo_b (zo_gI h16 10 x8 7) (fun v18 => zo_b (zo_pI h16 10 x8 7 (v18 + (zn 1))) (fun h20 => if x9 = (zn 0) then (zo_b (zo_gR h20 10 x8 10) (fun v23 => zo_v h20 x8 10 (zm_takeNumber sc x8 (zn 4) (zn 40) h20) (fun v26 h25 => zo_b (zq_wrX 1 h25 v23 (zn 52) v26) (fun h29 => zo_b (zo_gR h29 10 x8 10) (fun v31 => zo_b (zo_gR h29 10 x8 10) (fun v33 => zo_b (zq_rdI sc h29 v33 (zn 52)) (fun v35 => zo_v h29 x8 10 (zm_takeAfter sc x8 (zn 8) (zn 1) (v35 - (zn 1)) h29) (fun v38 h37 => zo_b (zq_wrX 1 h37 v31 (zn 53) v38) (fun h41 => some ((), h41)))))))))) else (if (zn 4) ≤ x9 then (zo_b (zo_gR h20 10 x8 10) (fun v44 => zo_b (zo_gI h20 10 x8 13) (fun v46 => zo_b (zq_wrX 1 h20 v44 (((zn 57) + x9) - (zn 4)) v46) (fun h48 => zo_l (if (zn 6) ≤ x9 then (zn 112) else (zn 15)) (fun (x50 : Int32) => zo_b (zo_pI h48 10 x8 21 x50) (fun h51 => zo_v h51 x8 10 (zm_all sc 64 x8 (zn 0) h51) (fun w54 h53 => zo_v h53 x8 10 (zm_emit sc x8 (zn 0) (zn 0) h53) (fun w58 h57 => some ((), h57))))))))) else (zo_b (zo_gR h20 10 x8 10) (fun v62 => zo_l (fun (x64 : Nat) (x65 : Int32) (x66 : Int32) (h67 : zH) => zo_b (zq_wrX 1 h67 x64 x65 x66) (fun h68 => some ((), h68))) (fun j189_67 => if x9 = (zn 1) then (zo_v h20 x8 10 (zm_takeNumber sc x8 (zn 0) (zn 999) h20) (fun v72 h71 => j189_67 v62 (((zn 54) + x9) - (zn 1)) v72 h71)) else (if x9 = (zn 2) then (zo_v h20 x8 10 (zm_takeNumber sc x8 (zn 1) (zn 13) h20) (fun v77 h76 => j189_67 v62 (((zn 54) + x9) - (zn 1)) v77 h76)) else (zo_v h20 x8 10 (zm_takeNumber sc x8 (zn 0) (zn 99) h20) (fun v81 h80 => j189_67 v62 (((zn 54) + x9) - (zn 1)) v81 h80)))))))))))) else (some ((), h10)))
def zoA (sc : zX) (x84 : Nat) (x85 : Int32) (h86 : zH) : Option (Unit × zH) := zo_b (zo_gI h86 10 x84 20) (fun v87 => if ((v87 >>> (x85 &&& 31)) &&& (zn 1)) = (zn 1) then (zo_v h86 x84 10 (zm_wrong sc x84 (zn 3) h86) (fun w91 h90 => zoB sc x84 x85 h90)) else (zoB sc x84 x85 h86))
theorem um_once (sc : zX) (a0 : Nat) (h : zH) : zm_readOnce sc a0 h = zo_v h a0 10 (zm_isWord sc a0 (zn 7) h) (fun v2 h1 => zo_l (fun (x5 : Nat) (x6 : Int32) (h7 : zH) => if x6 = (zn 0) then (zo_v h7 x5 10 (zm_isWord sc x5 (zn 7) h7) (fun v96 h95 => if v96 = (zn 0) then (zo_v h95 x5 10 (zm_wrong sc x5 (zn 1) h95) (fun w101 h100 => zoB sc x5 x6 h100)) else (zoA sc x5 x6 h95))) else (zoA sc x5 x6 h7)) (fun j23_7 => if v2 = (zn 0) then (zo_v h1 a0 10 (zm_wordHere sc a0 (zn 9) (zn 6) h1) (fun v106 h105 => j23_7 a0 (v106 + (zn 1)) h105)) else (j23_7 a0 (zn 0) h1))) := rfl
theorem zwf_96 : ∀ k, k < 36 → zwf 9 6 (some k) = (if 11 ≤ k ∧ k < 14 then some (k - 8) else if 15 ≤ k ∧ k < 18 then some (k - 15) else none) := by decide +kernel
theorem zws_11 {L : List zTo} {k : Nat} (h : zws L = some k) : zwh L 1 = if 11 ≤ k ∧ k < 18 then some (k - 11) else none := by
  have key : ∀ k, k < 36 → (if zuL.getD k 0 = 1 then some (zhL.getD k 0) else none) = (if 11 ≤ k ∧ k < 18 then some (k - 11) else none) := by decide +kernel
  unfold zwh
  rw [h]
  exact key k (zws_lt h)
theorem zDm.fld {I I' : zII} {J : zJJ} {D : zDft} {u : Nat} {A' : zA} {tl : Nat → Bool} (hD : zDw D) (h : zDm I J D u) (e1 : aP A' = aP D.1) (e2 : aM A' = aM D.1) (e3 : ∀ i j, i ≠ 6 → aF A' i j = aF D.1 i j) (e4 : aU A' = aU D.1) (e5 : aC A' = aC D.1) (i1 : ∀ k, (k < 52 ∨ 56 < k) → I' 222 k = I 222 k) (i2 : ∀ i, i < 5 → I' 222 (52 + i) = zn (aF A' 6 i)) (i20 : ∀ i, i < 7 → zb (I' 216 20) ((i + 4) % 7) = tl i) (i3 : I' 223 = I 223) (i4 : I' 224 = I 224) (i8 : I' 228 = I 228) (i19 : I' 216 19 = I 216 19) (i13 : I' 216 13 = I 216 13) : zDm I' J (A', D.2.1, tl) u := by
  obtain ⟨⟨h1, h2, h3, h4, h5⟩, h6, h7, h8, h9⟩ := h
  have hP := hD.1.1
  have hM := hD.1.2.1
  refine ⟨⟨?_, ?_, i2, fun p hp => ?_, fun i m hi hm => ?_⟩, fun q hq => ?_, ?_, i20, by rw [i13]; exact h9⟩
  · show I' 222 50 = zn (aP A')
    rw [i1 50 (by omega), e1]; exact h1
  · show I' 222 51 = zn (aM A')
    rw [i1 51 (by omega), e2]; exact h2
  · dsimp only at hp ⊢
    rw [e1] at hp
    rw [i1 _ (by omega), i1 _ (by omega), i1 _ (by omega), e3 0 p (by decide), e3 1 p (by decide), e4]; exact h4 p hp
  · dsimp only at hm ⊢
    rw [e2] at hm
    rw [i1 _ (by omega), e3 (3 + i) m (by omega)]; exact h5 i m hi hm
  · show zLe u I' q (aC A' q)
    rw [e5]
    exact (h6 q hq).mono (Nat.le_refl _) (i1 _ (by omega)) (fun i _ => by rw [i3, i4]; exact ⟨rfl, rfl⟩)
  · show zQe I' J D.2.1
    unfold zQe at *
    rw [i19, i8]; exact h7
theorem zDm.law {I I' : zII} {J : zJJ} {D : zDft} {u : Nat} {q : Nat} {l : zCo} (hD : zDw D) (hq3 : q < 3) (h : zDm I J D u) (i1 : ∀ k, k ≠ 57 + q → I' 222 k = I 222 k) (i2 : I' 222 (57 + q) = zn u) (i3 : ∀ i, i < 1100 + u → I' 223 i = I 223 i ∧ I' 224 i = I 224 i) (i0 : I' 223 (1100 + u + l.length) = zn 0) (ic : zcmd (decide (q = 2)) I' u l) (i8 : I' 228 = I 228) (i20 : I' 216 20 = I 216 20) (i19 : I' 216 19 = I 216 19) (i13 : I' 216 13 = zn (u + l.length + 1)) : zDm I' J (zAl D.1 q l, D.2) (u + l.length + 1) := by
  obtain ⟨⟨h1, h2, h3, h4, h5⟩, h6, h7, h8, h9⟩ := h
  have hP := hD.1.1
  have hM := hD.1.2.1
  refine ⟨⟨?_, ?_, fun i hi => ?_, fun p hp => ?_, fun i m hi hm => ?_⟩, fun q' hq' => ?_, ?_, ?_, i13⟩
  · rw [i1 50 (by omega)]; exact h1
  · rw [i1 51 (by omega)]; exact h2
  · rw [i1 (52 + i) (by omega)]; exact h3 i hi
  · have hp' : p < aP D.1 := hp
    rw [i1 _ (by omega), i1 _ (by omega), i1 _ (by omega)]; exact h4 p hp
  · have hm' : m < aM D.1 := hm
    rw [i1 _ (by omega)]; exact h5 i m hi hm
  · show zLe (u + l.length + 1) I' q' (if q' = q then some l else aC D.1 q')
    by_cases c : q' = q
    · rw [if_pos c, c]
      exact ⟨u, i2, by omega, i0, ic⟩
    · rw [if_neg c]
      exact (h6 q' hq').mono (by omega) (i1 _ (by omega)) i3
  · show zQe I' J D.2.1
    unfold zQe at *
    rw [i19, i8]; exact h7
  · rw [i20]; exact h8
section ZO
variable {sc : zX} {I : zII} {J : zJJ} {r : zRr} {N u : Nat} {K : List zTo} {D : zDft}
theorem mafter_F {F k : Nat} (h : zMs I J N K k F) (hF : 1 ≤ F) (x y z : Int32) : zm_takeAfter sc 216 x y z (zG I J r) = some (zn 0, zG I J r) := by
  rw [um_takeAfter]
  simp (disch := first | assumption | omega) only [↓zoc (mtakeWord_F (sc := sc) (r := r) h hF x), ↓zoc (mtakeNumber_F (sc := sc) (r := r) h hF y z), ↓gI_64, ↓gL_64, ↓pI_64, ↓pL_64, ↓vv_64, ↓gI_65, ↓gL_65, ↓pI_65, ↓pL_65, ↓vv_65, ↓gI_67, ↓gL_67, ↓pI_67, ↓pL_67, ↓vv_67, ↓gI_70, ↓gL_70, ↓pI_70, ↓pL_70, ↓vv_70, ↓gI_73, ↓gL_73, ↓pI_73, ↓pL_73, ↓vv_73, ↓gI_77, ↓gL_77, ↓pI_77, ↓pL_77, ↓vv_77, ↓gI_84, ↓gL_84, ↓pI_84, ↓pL_84, ↓vv_84, ↓gI_90, ↓gL_90, ↓pI_90, ↓pL_90, ↓vv_90, ↓gI_216, ↓gL_216, ↓pI_216, ↓pL_216, ↓vv_216, ↓rd_66, ↓wr_66, ↓ln_66, ↓at_68, ↓pt_68, ↓at_69, ↓pt_69, ↓at_71, ↓pt_71, ↓at_72, ↓pt_72, ↓at_74, ↓pt_74, ↓at_75, ↓pt_75, ↓at_76, ↓pt_76, ↓at_78, ↓pt_78, ↓at_79, ↓pt_79, ↓at_80, ↓pt_80, ↓at_81, ↓pt_81, ↓at_82, ↓pt_82, ↓at_83, ↓pt_83, ↓at_85, ↓pt_85, ↓at_86, ↓pt_86, ↓at_87, ↓pt_87, ↓at_88, ↓pt_88, ↓at_89, ↓pt_89, ↓at_91, ↓pt_91, ↓at_95, ↓pt_95, ↓rd_217, ↓wr_217, ↓ln_217, ↓rd_218, ↓wr_218, ↓ln_218, ↓rd_219, ↓wr_219, ↓ln_219, ↓rd_220, ↓wr_220, ↓ln_220, ↓rd_221, ↓wr_221, ↓ln_221, ↓rd_222, ↓wr_222, ↓ln_222, ↓rd_223, ↓wr_223, ↓ln_223, ↓rd_224, ↓wr_224, ↓ln_224, ↓rd_225, ↓wr_225, ↓ln_225, ↓rd_226, ↓wr_226, ↓ln_226, ↓rd_227, ↓wr_227, ↓ln_227, ↓rd_228, ↓wr_228, ↓ln_228, ↓rd_229, ↓wr_229, ↓ln_229, ↓rd_230, ↓wr_230, ↓ln_230, ↓rd_231, ↓wr_231, ↓ln_231, ↓rd_232, ↓wr_232, ↓ln_232, ↓rd_233, ↓wr_233, ↓ln_233, ↓rd_234, ↓wr_234, ↓ln_234, ↓rd_235, ↓wr_235, ↓ln_235, ↓rd_236, ↓wr_236, ↓ln_236, ↓rd_237, ↓wr_237, ↓ln_237, ↓rd_238, ↓wr_238, ↓ln_238, ↓rd_239, ↓wr_239, ↓ln_239, ↓rd_240, ↓wr_240, ↓ln_240, ↓rd_241, ↓wr_241, ↓ln_241, ↓rd_242, ↓wr_242, ↓ln_242, ↓rd_243, ↓wr_243, ↓ln_243, ↓gR_64_0, ↓gR_64_1, ↓gR_64_2, ↓gR_64_3, ↓gR_64_4, ↓gR_64_5, ↓gR_64_6, ↓gR_64_7, ↓gR_64_8, ↓gR_64_9, ↓gR_64_10, ↓gR_65_0, ↓gR_67_0, ↓gR_67_1, ↓gR_70_0, ↓gR_70_1, ↓gR_73_0, ↓gR_73_1, ↓gR_73_2, ↓gR_77_3, ↓gR_77_4, ↓gR_77_7, ↓gR_77_8, ↓gR_77_9, ↓gR_77_10, ↓gR_84_0, ↓gR_84_1, ↓gR_84_2, ↓gR_84_3, ↓gR_84_4, ↓gR_90_1, ↓gR_216_1, ↓gR_216_4, ↓gR_216_5, ↓gR_216_6, ↓gR_216_9, ↓gR_216_10, ↓gR_216_11, ↓gR_216_12, ↓gR_216_14, ↓gR_216_15, ↓gR_216_16, ↓gR_216_17, ↓gR_216_22, ↓gR_216_23, ↓gR_216_24, ↓gR_216_25, ↓gR_216_27, ↓gR_216_28, ↓gR_216_29, ↓gR_216_31, ↓gR_216_35, ↓gR_216_36, ↓gR_216_37, ↓gR_216_38, ↓gR_216_39, ↓gR_216_43, ↓gR_64_11, ↓gR_64_12, ↓gR_64_13, ↓gR_64_14, ↓gQ_65, ↓gI_A, ↓gL_A, ↓pI_A, ↓pL_A, ↓vv_A, ↓gI_Lw, ↓gL_Lw, ↓pI_Lw, ↓pL_Lw, ↓vv_Lw, ↓gR_A_7, ↓gR_A_8, ↓gR_A_9, ↓gR_A_10, ↓gR_A_11, ↓gR_A_12, ↓gR_A_13, ↓gR_A_14, ↓gR_A_15, ↓gR_A_16, ↓gR_A_17, ↓gR_Lw_0, ↓gR_Lw_1, ↓gR_Lw_2, ↓gR_Lw_3, ↓gR_Lw_4, ↓at_A1, ↓pt_A1, ↓at_A2, ↓pt_A2, ↓at_A3, ↓pt_A3, ↓at_A4, ↓pt_A4, ↓at_A5, ↓pt_A5, ↓at_A6, ↓pt_A6, ↓rd_A7, ↓wr_A7, ↓ln_A7, ↓rd_A8, ↓wr_A8, ↓ln_A8, ↓at_A9, ↓pt_A9, ↓at_A10, ↓pt_A10, ↓at_A12, ↓pt_A12, ↓at_A13, ↓pt_A13, ↓at_A14, ↓pt_A14, ↓at_A15, ↓pt_A15, ↓at_A16, ↓pt_A16, ↓gI_W, ↓gL_W, ↓pI_W, ↓pL_W, ↓vv_W, ↓gR_W_1, ↓gR_W_2, ↓gR_W_3, ↓gR_W_4, ↓at_W1, ↓pt_W1, ↓at_W2, ↓pt_W2, ↓at_W3, ↓pt_W3, ↓at_W4, ↓pt_W4, ↓rdR_92, ↓rdR_93, ↓rdR_94, ↓gI_S, ↓gL_S, ↓pI_S, ↓pL_S, ↓vv_S, ↓gR_S_0, ↓gR_S_1, ↓at_S1, ↓pt_S1, ↓at_S2, ↓pt_S2, ↓gI_N, ↓gL_N, ↓pI_N, ↓pL_N, ↓vv_N, ↓gR_N_0, ↓gR_N_1, ↓gR_N_2, ↓at_N1, ↓pt_N1, ↓at_N2, ↓pt_N2, ↓at_N3, ↓pt_N3, ↓pB_S, ↓pB_S0, ↓pB_S1, ↓pB_770, ↓pB_771, ↓at_6, ↓pt_6, ↓atN, ↓ptN, ↓cS, ↓bS, ↓zol, ↓zrb, ↓zrb0, ↓zrb1, ↓reduceIte, z32_s, z32_n, zb_test, zn_add, zn_mul, zn_addN, zn_sub, zU_ne, zU_eq, zU_at, zV_ne, zV_eq, zV_at, p_le, p_nle, p_lt, p_nlt, p_eq, p_neq, p_eqN, p_leN, p_ltN, p_Nle, p_Nlt, p_Neq, p_zt0, p_zt1, eq_self, Nat.reduceAdd, Nat.reduceMul, Nat.reduceSub, Nat.reduceEqDiff, Nat.reduceLT, Nat.reduceLeDiff, if_true, if_false, Bool.false_eq_true, not_true_eq_false, not_false_eq_true, reduceCtorEq]
theorem zoB_F {F k : Nat} (h : zMs I J N K k F) (hF : 1 ≤ F) (x : Int32) : zoB sc 216 x (zG I J r) = some ((), zG I J r) := by
  have e2 := h.2.2.2.1
  have e3 := h.2.2.2.2
  unfold zoB
  simp (disch := first | assumption | omega) only [e2, ↓gI_64, ↓gL_64, ↓pI_64, ↓pL_64, ↓vv_64, ↓gI_65, ↓gL_65, ↓pI_65, ↓pL_65, ↓vv_65, ↓gI_67, ↓gL_67, ↓pI_67, ↓pL_67, ↓vv_67, ↓gI_70, ↓gL_70, ↓pI_70, ↓pL_70, ↓vv_70, ↓gI_73, ↓gL_73, ↓pI_73, ↓pL_73, ↓vv_73, ↓gI_77, ↓gL_77, ↓pI_77, ↓pL_77, ↓vv_77, ↓gI_84, ↓gL_84, ↓pI_84, ↓pL_84, ↓vv_84, ↓gI_90, ↓gL_90, ↓pI_90, ↓pL_90, ↓vv_90, ↓gI_216, ↓gL_216, ↓pI_216, ↓pL_216, ↓vv_216, ↓rd_66, ↓wr_66, ↓ln_66, ↓at_68, ↓pt_68, ↓at_69, ↓pt_69, ↓at_71, ↓pt_71, ↓at_72, ↓pt_72, ↓at_74, ↓pt_74, ↓at_75, ↓pt_75, ↓at_76, ↓pt_76, ↓at_78, ↓pt_78, ↓at_79, ↓pt_79, ↓at_80, ↓pt_80, ↓at_81, ↓pt_81, ↓at_82, ↓pt_82, ↓at_83, ↓pt_83, ↓at_85, ↓pt_85, ↓at_86, ↓pt_86, ↓at_87, ↓pt_87, ↓at_88, ↓pt_88, ↓at_89, ↓pt_89, ↓at_91, ↓pt_91, ↓at_95, ↓pt_95, ↓rd_217, ↓wr_217, ↓ln_217, ↓rd_218, ↓wr_218, ↓ln_218, ↓rd_219, ↓wr_219, ↓ln_219, ↓rd_220, ↓wr_220, ↓ln_220, ↓rd_221, ↓wr_221, ↓ln_221, ↓rd_222, ↓wr_222, ↓ln_222, ↓rd_223, ↓wr_223, ↓ln_223, ↓rd_224, ↓wr_224, ↓ln_224, ↓rd_225, ↓wr_225, ↓ln_225, ↓rd_226, ↓wr_226, ↓ln_226, ↓rd_227, ↓wr_227, ↓ln_227, ↓rd_228, ↓wr_228, ↓ln_228, ↓rd_229, ↓wr_229, ↓ln_229, ↓rd_230, ↓wr_230, ↓ln_230, ↓rd_231, ↓wr_231, ↓ln_231, ↓rd_232, ↓wr_232, ↓ln_232, ↓rd_233, ↓wr_233, ↓ln_233, ↓rd_234, ↓wr_234, ↓ln_234, ↓rd_235, ↓wr_235, ↓ln_235, ↓rd_236, ↓wr_236, ↓ln_236, ↓rd_237, ↓wr_237, ↓ln_237, ↓rd_238, ↓wr_238, ↓ln_238, ↓rd_239, ↓wr_239, ↓ln_239, ↓rd_240, ↓wr_240, ↓ln_240, ↓rd_241, ↓wr_241, ↓ln_241, ↓rd_242, ↓wr_242, ↓ln_242, ↓rd_243, ↓wr_243, ↓ln_243, ↓gR_64_0, ↓gR_64_1, ↓gR_64_2, ↓gR_64_3, ↓gR_64_4, ↓gR_64_5, ↓gR_64_6, ↓gR_64_7, ↓gR_64_8, ↓gR_64_9, ↓gR_64_10, ↓gR_65_0, ↓gR_67_0, ↓gR_67_1, ↓gR_70_0, ↓gR_70_1, ↓gR_73_0, ↓gR_73_1, ↓gR_73_2, ↓gR_77_3, ↓gR_77_4, ↓gR_77_7, ↓gR_77_8, ↓gR_77_9, ↓gR_77_10, ↓gR_84_0, ↓gR_84_1, ↓gR_84_2, ↓gR_84_3, ↓gR_84_4, ↓gR_90_1, ↓gR_216_1, ↓gR_216_4, ↓gR_216_5, ↓gR_216_6, ↓gR_216_9, ↓gR_216_10, ↓gR_216_11, ↓gR_216_12, ↓gR_216_14, ↓gR_216_15, ↓gR_216_16, ↓gR_216_17, ↓gR_216_22, ↓gR_216_23, ↓gR_216_24, ↓gR_216_25, ↓gR_216_27, ↓gR_216_28, ↓gR_216_29, ↓gR_216_31, ↓gR_216_35, ↓gR_216_36, ↓gR_216_37, ↓gR_216_38, ↓gR_216_39, ↓gR_216_43, ↓gR_64_11, ↓gR_64_12, ↓gR_64_13, ↓gR_64_14, ↓gQ_65, ↓gI_A, ↓gL_A, ↓pI_A, ↓pL_A, ↓vv_A, ↓gI_Lw, ↓gL_Lw, ↓pI_Lw, ↓pL_Lw, ↓vv_Lw, ↓gR_A_7, ↓gR_A_8, ↓gR_A_9, ↓gR_A_10, ↓gR_A_11, ↓gR_A_12, ↓gR_A_13, ↓gR_A_14, ↓gR_A_15, ↓gR_A_16, ↓gR_A_17, ↓gR_Lw_0, ↓gR_Lw_1, ↓gR_Lw_2, ↓gR_Lw_3, ↓gR_Lw_4, ↓at_A1, ↓pt_A1, ↓at_A2, ↓pt_A2, ↓at_A3, ↓pt_A3, ↓at_A4, ↓pt_A4, ↓at_A5, ↓pt_A5, ↓at_A6, ↓pt_A6, ↓rd_A7, ↓wr_A7, ↓ln_A7, ↓rd_A8, ↓wr_A8, ↓ln_A8, ↓at_A9, ↓pt_A9, ↓at_A10, ↓pt_A10, ↓at_A12, ↓pt_A12, ↓at_A13, ↓pt_A13, ↓at_A14, ↓pt_A14, ↓at_A15, ↓pt_A15, ↓at_A16, ↓pt_A16, ↓gI_W, ↓gL_W, ↓pI_W, ↓pL_W, ↓vv_W, ↓gR_W_1, ↓gR_W_2, ↓gR_W_3, ↓gR_W_4, ↓at_W1, ↓pt_W1, ↓at_W2, ↓pt_W2, ↓at_W3, ↓pt_W3, ↓at_W4, ↓pt_W4, ↓rdR_92, ↓rdR_93, ↓rdR_94, ↓gI_S, ↓gL_S, ↓pI_S, ↓pL_S, ↓vv_S, ↓gR_S_0, ↓gR_S_1, ↓at_S1, ↓pt_S1, ↓at_S2, ↓pt_S2, ↓gI_N, ↓gL_N, ↓pI_N, ↓pL_N, ↓vv_N, ↓gR_N_0, ↓gR_N_1, ↓gR_N_2, ↓at_N1, ↓pt_N1, ↓at_N2, ↓pt_N2, ↓at_N3, ↓pt_N3, ↓pB_S, ↓pB_S0, ↓pB_S1, ↓pB_770, ↓pB_771, ↓at_6, ↓pt_6, ↓atN, ↓ptN, ↓cS, ↓bS, ↓zol, ↓zrb, ↓zrb0, ↓zrb1, ↓reduceIte, z32_s, z32_n, zb_test, zn_add, zn_mul, zn_addN, zn_sub, zU_ne, zU_eq, zU_at, zV_ne, zV_eq, zV_at, p_le, p_nle, p_lt, p_nlt, p_eq, p_neq, p_eqN, p_leN, p_ltN, p_Nle, p_Nlt, p_Neq, p_zt0, p_zt1, eq_self, Nat.reduceAdd, Nat.reduceMul, Nat.reduceSub, Nat.reduceEqDiff, Nat.reduceLT, Nat.reduceLeDiff, if_true, if_false, Bool.false_eq_true, not_true_eq_false, not_false_eq_true, reduceCtorEq]
/-- a line marked as told, its word behind -/
theorem zDm.told {i k : Nat} (hi : i < 7) (hD : zDw D) (hc : zDm I J D u) {I1 : zII} (hI1 : I1 = zU (zU I 216 20 (I 216 20 ||| (zn 1 <<< (zn ((i + 4) % 7) &&& 31)))) 216 7 (zn (k + 1))) : zDm I1 J (zD1 D i) u := by
  refine hc.fld (A' := D.1) (tl := fun j => D.2.2 j || j == i) hD rfl rfl (fun _ _ _ => rfl) rfl rfl (fun k' _ => ?_) (fun j hj => ?_) (fun j hj => ?_) ?_ ?_ ?_ ?_ ?_
  · rw [hI1, zU_ne (by decide), zU_ne (by decide)]
  · rw [hI1, zU_ne (by decide), zU_ne (by decide)]; exact hc.1.2.2.1 j hj
  · rw [hI1, zU_ne2 (by decide), zU_eq, zb_or, zb_shl _ (by omega) _ (by omega), hc.2.2.2.1 j hj]
    have : decide ((j + 4) % 7 = (i + 4) % 7) = (j == i) := by
      by_cases c : j = i
      · rw [c, decide_eq_true rfl, beq_self_eq_true]
      · rw [decide_eq_false (by omega)]
        exact (beq_eq_false_iff_ne.mpr c).symm
    rw [this]
  · rw [hI1, zU_ne (by decide), zU_ne (by decide)]
  · rw [hI1, zU_ne (by decide), zU_ne (by decide)]
  · rw [hI1, zU_ne (by decide), zU_ne (by decide)]
  · rw [hI1, zU_ne2 (by decide), zU_ne2 (by decide)]
  · rw [hI1, zU_ne2 (by decide), zU_ne2 (by decide)]
theorem mmark_e {i : Nat} {t : zTo} {M : List zTo} (h7 : i < 7) (hD : zDw D) (hc : zDm I J D u) (h : zSs I J N K (.ok (t :: M))) : ∃ I1 k, I 216 7 = zn k ∧ k ≤ 1000 ∧ I 216 8 = zn 0 ∧ I1 = zU (zU I 216 20 (I 216 20 ||| (zn 1 <<< (zn ((i + 4) % 7) &&& 31)))) 216 7 (zn (k + 1)) ∧ zSs I1 J N K (.ok M) ∧ zDm I1 J (zD1 D i) u ∧ zFA I J I1 J := by
  obtain ⟨k, x, g1, g2, g3, g4⟩ := h.so
  obtain ⟨I1, hI1⟩ : ∃ I1, I1 = zU (zU I 216 20 (I 216 20 ||| (zn 1 <<< (zn ((i + 4) % 7) &&& 31)))) 216 7 (zn (k + 1)) := ⟨_, rfl⟩
  refine ⟨I1, k, g1, g2, g3, hI1, ?_, hc.told h7 hD hI1, ?_⟩
  · obtain ⟨x', y', q1, q2, q3, q4, _, q6, q7⟩ := mon_s h (fun L q => by cases q; exact fun z => by cases z)
    dsimp only at q6
    subst q6
    rw [if_pos rfl] at q7
    have hk : x' = k := (zn_eq (by omega) (by omega)).mp (q1.symm.trans g1)
    subst hk
    have q8 : zSs (zU I 216 7 (zn (x' + 1))) J N K (.ok M) := q7
    refine q8.fr ?_ ?_ ?_ ?_ rfl rfl
    · rw [hI1, zU_ne (by decide), zU_ne (by decide), zU_ne (by decide)]
    · rw [hI1, zU_ne (by decide), zU_ne (by decide), zU_ne (by decide)]
    · rw [hI1, zU_eq, zU_eq]
    · rw [hI1, zU_ne2 (by decide), zU_ne2 (by decide), zU_ne2 (by decide)]
  · exact ⟨by rw [hI1]; exact ((zFr.refl _ I).u (by simp only [List.mem_cons, List.not_mem_nil, or_false, true_or, or_true] <;> omega)).u (by simp only [List.mem_cons, List.not_mem_nil, or_false, true_or, or_true] <;> omega), fun k' a b c d e f => by rw [hI1, zU_ne2 a, zU_ne2 e], fun k' _ => by rw [hI1, zU_ne (by decide), zU_ne (by decide)], fun k' _ => ⟨by rw [hI1, zU_ne (by decide), zU_ne (by decide)], by rw [hI1, zU_ne (by decide), zU_ne (by decide)]⟩, fun _ _ => rfl⟩
/-- what the rest of the line does -/
def zOn (sc : zX) (r : zRr) (N u : Nat) (K : List zTo) (D : zDft) (i : Nat) (I : zII) (J : zJJ) (L : List zTo) : Prop := ∃ I', zoB sc 216 (zn ((i + 4) % 7)) (zG I J r) = some ((), zG I' J r) ∧ zFA I J I' J ∧ (match zon N i (zD1 D i) L.tail with
    | .error F => zSs I' J N K (.error F)
    | .ok p => zSs I' J N K (.ok p.1) ∧ ∃ u', zDm I' J p.2 u' ∧ u' + p.1.length ≤ 1000)
theorem monce_n {i lo hi : Nat} {t : zTo} {M : List zTo} (h4 : 4 ≤ i) (h7 : i < 7) (hlo : lo < 100000) (hhi : hi < 100000) (hD : zDw D) (hc : zDm I J D u) (h : zSs I J N K (.ok (t :: M))) (hu : u + M.length ≤ 1000) (hz : zon N i (zD1 D i) M = zbn (znb N lo hi M) (fun L1 x => .ok (L1, (zAf D.1 (i - 2) x, (zD1 D i).2)))) (hev : ∀ I1 I2 y k, I 216 7 = zn k → k ≤ 1000 → I 216 8 = zn 0 → I1 = zU (zU I 216 20 (I 216 20 ||| (zn 1 <<< (zn ((i + 4) % 7) &&& 31)))) 216 7 (zn (k + 1)) → zm_takeNumber sc 216 (zn lo) (zn hi) (zG I1 J r) = some (zn y, zG I2 J r) → zoB sc 216 (zn ((i + 4) % 7)) (zG I J r) = some ((), zG (zU I2 222 (50 + i) (zn y)) J r)) : zOn sc r N u K D i I J (t :: M) := by
  obtain ⟨I1, k, g1, g2, g3, hI1, s1, hc1, fa1⟩ := mmark_e h7 hD hc h
  obtain ⟨I2, e2, s2, f2⟩ := mnumber_s (sc := sc) (r := r) s1 hlo hhi
  have ev := hev I1 I2 _ k g1 g2 g3 hI1 e2
  refine ⟨_, ev, (fa1.tr f2.fa).tr (zFA.w2 (by omega)), ?_⟩
  have s3 := s2.w2 (i := 50 + i) (x := zn (zap 0 (znb N lo hi) (.ok M)).2)
  rw [List.tail_cons, hz]
  cases hr : znb N lo hi M with
  | error F =>
    rw [zap_er hr] at s3 ⊢
    exact s3
  | ok p =>
    obtain ⟨L1, x⟩ := p
    obtain ⟨_, _, z3, _⟩ := znb_inv hr
    rw [zap_ok hr] at s3 ⊢
    rw [zbn_ok]
    have hl : L1.length ≤ M.length := by rw [z3]; exact ztl
    refine ⟨s3, u, ?_, by show u + L1.length ≤ 1000; omega⟩
    have r2 : ∀ k, zU I2 222 (50 + i) (zn x) 222 k = if k = 50 + i then zn x else I1 222 k := fun k => by rw [zU_at, f2.1 222 (by simp only [List.mem_cons, List.not_mem_nil, or_false, not_or] <;> omega)]
    have hD1 : zDw (zD1 D i) := hD
    refine zDm.fld (D := zD1 D i) (A' := zAf D.1 (i - 2) x) (tl := (zD1 D i).2.2) hD1 hc1 rfl rfl (fun i' j q => (show aF (zAf D.1 (i - 2) x) i' j = aF D.1 i' j from by rw [zAf_F, if_neg (fun z => q z.1)])) rfl rfl (fun k' hk' => ?_) (fun j hj => ?_) (fun j hj => ?_) ?_ ?_ ?_ ?_ ?_
    · dsimp only
      rw [r2, if_neg (by omega)]
    · dsimp only
      rw [r2, zAf_F]
      by_cases c : j = i - 2
      · rw [if_pos (by omega), if_pos ⟨rfl, c⟩]
      · rw [if_neg (by omega), if_neg (fun z => c z.2)]
        exact hc1.1.2.2.1 j hj
    · dsimp only
      rw [zU_ne (by decide), f2.2 20 (by decide) (by decide)]
      exact hc1.2.2.2.1 j hj
    · dsimp only
      rw [zU_ne (by decide), f2.1 223 (by simp only [List.mem_cons, List.not_mem_nil, or_false, not_or] <;> omega)]
    · dsimp only
      rw [zU_ne (by decide), f2.1 224 (by simp only [List.mem_cons, List.not_mem_nil, or_false, not_or] <;> omega)]
    · dsimp only
      rw [zU_ne (by decide), f2.1 228 (by simp only [List.mem_cons, List.not_mem_nil, or_false, not_or] <;> omega)]
    · dsimp only
      rw [zU_ne (by decide), f2.2 19 (by decide) (by decide)]
    · dsimp only
      rw [zU_ne (by decide), f2.2 13 (by decide) (by decide)]
end ZO
