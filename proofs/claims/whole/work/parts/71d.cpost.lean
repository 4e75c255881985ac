/-! armies as told: the class reads posts and men -/
theorem zDc.fr2 {b u : Nat} {I I' : zII} {J J' : zJJ} {D : zDft} (h : zDc b I J D u) (e0 : I' b = I b) (e1 : ∀ p, p < aP D.1 → I' (b + 1) p = I (b + 1) p ∧ I' (b + 2) p = I (b + 2) p ∧ I' (b + 3) p = I (b + 3) p) (e4 : ∀ i m, i < 3 → m < aM D.1 → I' (b + 4 + i) m = I (b + 4 + i) m) (e5 : ∀ o, b + 11 ≤ o → o ≤ b + 14 → I' o = I o) (hJ : J' (b + 7) = J (b + 7)) (hJ2 : J' (b + 8) = J (b + 8)) : zDc b I' J' D u := by
  obtain ⟨⟨h1, h2, h3, h4, h5⟩, h6, h7, h8, h9, h10⟩ := h
  refine ⟨⟨by rw [e0]; exact h1, by rw [e0]; exact h2, fun i hi => by rw [e0]; exact h3 i hi, fun p hp => ?_, fun i m hi hm => ?_⟩, fun q hq => ?_, ?_, ?_, fun i hi => by rw [e0]; exact h9 i hi, by rw [e5 (b + 11) (by omega) (by omega)]; exact h10⟩
  · obtain ⟨g1, g2, g3⟩ := e1 p hp
    rw [g1, g2, g3]; exact h4 p hp
  · rw [e4 i m hi hm]; exact h5 i m hi hm
  · exact (h6 q hq).mono (Nat.le_refl _) (by rw [e5 (b + 13) (by omega) (by omega)]) (by rw [e5 (b + 14) (by omega) (by omega)]) (fun i _ => by rw [e5 (b + 12) (by omega) (by omega)])
  · unfold zQp at *; rw [hJ]; exact h7
  · unfold zQc at *; rw [hJ2]; exact h8
theorem zDc.post {b u : Nat} {I I' : zII} {J J' : zJJ} {D : zDft} (hD : zDw D) (hP : aP D.1 < 6) (h : zDc b I J D u) {kd wg : Nat} {un : Option Nat} {nm : List Nat} (e0 : I' b 0 = zn (aP D.1 + 1)) (e0' : ∀ k, k ≠ 0 → I' b k = I b k) (e1 : ∀ p, p < aP D.1 → I' (b + 1) p = I (b + 1) p ∧ I' (b + 2) p = I (b + 2) p ∧ I' (b + 3) p = I (b + 3) p) (eP : I' (b + 1) (aP D.1) = zn kd ∧ I' (b + 2) (aP D.1) = zn wg ∧ I' (b + 3) (aP D.1) = z32 un) (e4 : ∀ o, b + 4 ≤ o → o ≤ b + 6 → I' o = I o) (e5 : ∀ o, b + 11 ≤ o → o ≤ b + 14 → I' o = I o) (hJ : ∀ i, i ≠ aP D.1 → J' (b + 7) i = J (b + 7) i) (hJP : J' (b + 7) (aP D.1) = zl (zcw 27 nm 0)) (hJ2 : J' (b + 8) = J (b + 8)) : zDc b I' J' (zAp D.1 kd wg un, D.2.1 ++ [(nm, aP D.1)], D.2.2) u := by
  obtain ⟨⟨h1, h2, h3, h4, h5⟩, h6, h7, h8, h9, h10⟩ := h
  have hw := hD.1
  have eF : ∀ i j, aF (zAp D.1 kd wg un) i j = if i = 0 ∧ j = aP D.1 then kd else if i = 1 ∧ j = aP D.1 then wg else aF D.1 i j := fun i j => rfl
  have eU : ∀ p, aU (zAp D.1 kd wg un) p = if p = aP D.1 then un else aU D.1 p := fun p => rfl
  have e6 : ∀ i j, 2 ≤ i → aF (zAp D.1 kd wg un) i j = aF D.1 i j := fun i j hi => by rw [eF, if_neg (by omega), if_neg (by omega)]
  refine ⟨⟨e0, by rw [e0' 1 (by decide)]; exact h2, fun i hi => ?_, fun p hp => ?_, fun i m hi hm => ?_⟩, fun q hq => ?_, fun w i hi hi2 => ?_, fun w m hm => ?_, fun i hi => ?_, ?_⟩
  · dsimp only
    rw [e0' _ (by omega), e6 6 i (by decide)]; exact h3 i hi
  · have hp' : p < aP D.1 + 1 := hp
    dsimp only
    rw [eF, eF, eU]
    by_cases c : p = aP D.1
    · subst c
      rw [if_pos ⟨rfl, rfl⟩, if_neg (by omega), if_pos ⟨rfl, rfl⟩, if_pos rfl]
      exact eP
    · rw [if_neg (fun z => c z.2), if_neg (by omega), if_neg (by omega), if_neg (fun z => c z.2), if_neg c]
      obtain ⟨g1, g2, g3⟩ := e1 p (by omega)
      rw [g1, g2, g3]
      exact h4 p (by omega)
  · dsimp only
    rw [e4 (b + 4 + i) (by omega) (by omega), e6 (3 + i) m (by omega)]
    exact h5 i m hi hm
  · exact (h6 q hq).mono (Nat.le_refl _) (by rw [e5 (b + 13) (by omega) (by omega)]) (by rw [e5 (b + 14) (by omega) (by omega)]) (fun i _ => by rw [e5 (b + 12) (by omega) (by omega)])
  · rcases List.mem_append.mp hi with g | g
    · have hlt : i ≠ aP D.1 := by
        rcases (hD.2.1.2.1 _ g).2 with q | ⟨m, _, q⟩
        · have q' : i < aP D.1 := q
          omega
        · have q' : i = 20 + m := q
          omega
      rw [hJ i hlt]
      exact h7 w i g hi2
    · rw [List.mem_singleton] at g
      have g1 : w = nm := congrArg Prod.fst g
      have g2 : i = aP D.1 := congrArg Prod.snd g
      rw [g1, g2]
      exact hJP
  · rw [hJ2]
    rcases List.mem_append.mp hm with g | g
    · exact h8 w m g
    · rw [List.mem_singleton] at g
      have g2 : 20 + m = aP D.1 := congrArg Prod.snd g
      omega
  · rw [e0' 18 (by decide)]; exact h9 i hi
  · rw [e5 (b + 11) (by omega) (by omega)]; exact h10
theorem zDc.man {b u : Nat} {I I' : zII} {J J' : zJJ} {D : zDft} (hD : zDw D) (hM : aM D.1 < 6) (h : zDc b I J D u) {br wt co : Nat} {nm : List Nat} (e0 : I' b 1 = zn (aM D.1 + 1)) (e0' : ∀ k, k ≠ 1 → I' b k = I b k) (e1 : ∀ o, b + 1 ≤ o → o ≤ b + 3 → I' o = I o) (e4 : ∀ i m, i < 3 → m ≠ aM D.1 → I' (b + 4 + i) m = I (b + 4 + i) m) (eM : I' (b + 4) (aM D.1) = zn br ∧ I' (b + 5) (aM D.1) = zn wt ∧ I' (b + 6) (aM D.1) = zn co) (e5 : ∀ o, b + 11 ≤ o → o ≤ b + 14 → I' o = I o) (hJ : J' (b + 7) = J (b + 7)) (hJ2 : ∀ i, i ≠ aM D.1 → J' (b + 8) i = J (b + 8) i) (hJM : J' (b + 8) (aM D.1) = zl (zcw 27 nm 0)) : zDc b I' J' (zAn D.1 br wt co, D.2.1 ++ [(nm, 20 + aM D.1)], D.2.2) u := by
  obtain ⟨⟨h1, h2, h3, h4, h5⟩, h6, h7, h8, h9, h10⟩ := h
  have hw := hD.1
  have eF : ∀ i j, aF (zAn D.1 br wt co) i j = if i = 3 ∧ j = aM D.1 then br else if i = 4 ∧ j = aM D.1 then wt else if i = 5 ∧ j = aM D.1 then co else aF D.1 i j := fun i j => rfl
  have e6 : ∀ i j, i < 3 ∨ 6 ≤ i → aF (zAn D.1 br wt co) i j = aF D.1 i j := fun i j hi => by rw [eF, if_neg (by omega), if_neg (by omega), if_neg (by omega)]
  refine ⟨⟨by rw [e0' 0 (by decide)]; exact h1, e0, fun i hi => ?_, fun p hp => ?_, fun i m hi hm => ?_⟩, fun q hq => ?_, fun w i hi hi2 => ?_, fun w m hm => ?_, fun i hi => ?_, ?_⟩
  · dsimp only
    rw [e0' _ (by omega), e6 6 i (by decide)]; exact h3 i hi
  · dsimp only
    rw [e1 (b + 1) (by omega) (by omega), e1 (b + 2) (by omega) (by omega), e1 (b + 3) (by omega) (by omega), e6 0 p (by decide), e6 1 p (by decide)]
    exact h4 p hp
  · have hm' : m < aM D.1 + 1 := hm
    dsimp only
    rw [eF]
    by_cases c : m = aM D.1
    · subst c
      rcases (by omega : i = 0 ∨ i = 1 ∨ i = 2) with rfl | rfl | rfl
      · rw [if_pos ⟨rfl, rfl⟩]; exact eM.1
      · rw [if_neg (by omega), if_pos ⟨rfl, rfl⟩]; exact eM.2.1
      · rw [if_neg (by omega), if_neg (by omega), if_pos ⟨rfl, rfl⟩]; exact eM.2.2
    · rw [if_neg (fun z => c z.2), if_neg (fun z => c z.2), if_neg (fun z => c z.2), e4 i m hi c]
      exact h5 i m hi (by omega)
  · exact (h6 q hq).mono (Nat.le_refl _) (by rw [e5 (b + 13) (by omega) (by omega)]) (by rw [e5 (b + 14) (by omega) (by omega)]) (fun i _ => by rw [e5 (b + 12) (by omega) (by omega)])
  · rw [hJ]
    rcases List.mem_append.mp hi with g | g
    · exact h7 w i g hi2
    · rw [List.mem_singleton] at g
      have g2 : i = 20 + aM D.1 := congrArg Prod.snd g
      omega
  · rcases List.mem_append.mp hm with g | g
    · have hlt : m ≠ aM D.1 := by
        rcases (hD.2.1.2.1 _ g).2 with q | ⟨m', q1, q⟩
        · have q' : 20 + m < aP D.1 := q
          have := hw.1
          omega
        · have q' : 20 + m = 20 + m' := q
          omega
      rw [hJ2 m hlt]
      exact h8 w m g
    · rw [List.mem_singleton] at g
      have g1 : w = nm := congrArg Prod.fst g
      have g2 : 20 + m = 20 + aM D.1 := congrArg Prod.snd g
      have g3 : m = aM D.1 := by omega
      rw [g1, g3]
      exact hJM
  · rw [e0' 18 (by decide)]; exact h9 i hi
  · rw [e5 (b + 11) (by omega) (by omega)]; exact h10
section ZO
variable {sc : zX} {I : zII} {J : zJJ} {a b w v u : Nat} {wd : Option Nat} {T : List Nat} {L : List zTo} {D : zDft}
theorem zCA_er {f : zH → Option (Int32 × zH)} {F : Nat} {I' : zII} {J' : zJJ} {wd' : Option Nat} (hb : b = 96 ∨ b = 113) (hD : zDw D) (hc : zDc b I J D u) (hu : u ≤ 1000) (h1 : 1 ≤ F) (h2 : F ≤ 20000) (e : f (zG I J (a, b, w, v, wd)) = some (zn 0, zG I' J' (a, b, w, v, wd'))) (e9 : I' 65 9 = zn F) (fr : zFr [65, b + 1, b + 2, b + 3, b + 4, b + 5, b + 6] I I') (frJ : ∀ o, o ≠ 65 → J' o = J o) : zCA T a b w v f I J wd (.error F) := ⟨h1, h2, I', J', wd', e, e9, ⟨fun o q1 q2 => fr o (by simp only [List.mem_cons, List.not_mem_nil, or_false, not_or] <;> omega), fun o q1 _ _ => frJ o q1⟩, hc.de hu hD.1 (by rw [fr b (by simp only [List.mem_cons, List.not_mem_nil, or_false, not_or] <;> omega)]) (by rw [fr b (by simp only [List.mem_cons, List.not_mem_nil, or_false, not_or] <;> omega)]) (fr _ (by simp only [List.mem_cons, List.not_mem_nil, or_false, not_or] <;> omega)) (fr _ (by simp only [List.mem_cons, List.not_mem_nil, or_false, not_or] <;> omega))⟩
theorem cpost_r (hb : b = 96 ∨ b = 113) (hD : zDw D) (hc : zDc b I J D u) (hu : u + L.length ≤ 1000) (hT : zTw T) (h : zTs I J wd T L) (hL : zws L = some 0) : zCA T a b w v (fun h => zx_Army_readPost sc b 65 h) I J wd (zpo T.length D L) := by
  have e0 := hc.1.1
  have hP6 := hD.1.1
  unfold zpo
  by_cases c6 : 6 ≤ aP D.1
  · rw [if_pos c6]
    have c6' : aP D.1 = 6 := by omega
    rw [c6'] at e0
    obtain ⟨b1, b2⟩ := zer_b hT h (k := 5) (by decide) (by decide)
    refine zCA_er hb hD hc (by omega) b1 b2 (wd' := wd) ?_ zU_eq ((zFr.refl _ I).u List.mem_cons_self) (fun _ _ => rfl)
    (try dsimp only)
    rw [ux_Army_readPost]
    simp (disch := first | assumption | omega) only [e0, ↓zoc (wrong_e (sc := sc) (a := a) (b := b) (w := w) (v := v) hT h 5), ↓gI_64, ↓gL_64, ↓pI_64, ↓pL_64, ↓vv_64, ↓gI_65, ↓gL_65, ↓pI_65, ↓pL_65, ↓vv_65, ↓gI_67, ↓gL_67, ↓pI_67, ↓pL_67, ↓vv_67, ↓gI_70, ↓gL_70, ↓pI_70, ↓pL_70, ↓vv_70, ↓gI_73, ↓gL_73, ↓pI_73, ↓pL_73, ↓vv_73, ↓gI_77, ↓gL_77, ↓pI_77, ↓pL_77, ↓vv_77, ↓gI_84, ↓gL_84, ↓pI_84, ↓pL_84, ↓vv_84, ↓gI_90, ↓gL_90, ↓pI_90, ↓pL_90, ↓vv_90, ↓gI_216, ↓gL_216, ↓pI_216, ↓pL_216, ↓vv_216, ↓rd_66, ↓wr_66, ↓ln_66, ↓at_68, ↓pt_68, ↓at_69, ↓pt_69, ↓at_71, ↓pt_71, ↓at_72, ↓pt_72, ↓at_74, ↓pt_74, ↓at_75, ↓pt_75, ↓at_76, ↓pt_76, ↓at_78, ↓pt_78, ↓at_79, ↓pt_79, ↓at_80, ↓pt_80, ↓at_81, ↓pt_81, ↓at_82, ↓pt_82, ↓at_83, ↓pt_83, ↓at_85, ↓pt_85, ↓at_86, ↓pt_86, ↓at_87, ↓pt_87, ↓at_88, ↓pt_88, ↓at_89, ↓pt_89, ↓at_91, ↓pt_91, ↓at_95, ↓pt_95, ↓rd_217, ↓wr_217, ↓ln_217, ↓rd_218, ↓wr_218, ↓ln_218, ↓rd_219, ↓wr_219, ↓ln_219, ↓rd_220, ↓wr_220, ↓ln_220, ↓rd_221, ↓wr_221, ↓ln_221, ↓rd_222, ↓wr_222, ↓ln_222, ↓rd_223, ↓wr_223, ↓ln_223, ↓rd_224, ↓wr_224, ↓ln_224, ↓rd_225, ↓wr_225, ↓ln_225, ↓rd_226, ↓wr_226, ↓ln_226, ↓rd_227, ↓wr_227, ↓ln_227, ↓rd_228, ↓wr_228, ↓ln_228, ↓rd_229, ↓wr_229, ↓ln_229, ↓rd_230, ↓wr_230, ↓ln_230, ↓rd_231, ↓wr_231, ↓ln_231, ↓rd_232, ↓wr_232, ↓ln_232, ↓rd_233, ↓wr_233, ↓ln_233, ↓rd_234, ↓wr_234, ↓ln_234, ↓rd_235, ↓wr_235, ↓ln_235, ↓rd_236, ↓wr_236, ↓ln_236, ↓rd_237, ↓wr_237, ↓ln_237, ↓rd_238, ↓wr_238, ↓ln_238, ↓rd_239, ↓wr_239, ↓ln_239, ↓rd_240, ↓wr_240, ↓ln_240, ↓rd_241, ↓wr_241, ↓ln_241, ↓rd_242, ↓wr_242, ↓ln_242, ↓rd_243, ↓wr_243, ↓ln_243, ↓gR_64_0, ↓gR_64_1, ↓gR_64_2, ↓gR_64_3, ↓gR_64_4, ↓gR_64_5, ↓gR_64_6, ↓gR_64_7, ↓gR_64_8, ↓gR_64_9, ↓gR_64_10, ↓gR_65_0, ↓gR_67_0, ↓gR_67_1, ↓gR_70_0, ↓gR_70_1, ↓gR_73_0, ↓gR_73_1, ↓gR_73_2, ↓gR_77_3, ↓gR_77_4, ↓gR_77_7, ↓gR_77_8, ↓gR_77_9, ↓gR_77_10, ↓gR_84_0, ↓gR_84_1, ↓gR_84_2, ↓gR_84_3, ↓gR_84_4, ↓gR_90_1, ↓gR_216_1, ↓gR_216_4, ↓gR_216_5, ↓gR_216_6, ↓gR_216_9, ↓gR_216_10, ↓gR_216_11, ↓gR_216_12, ↓gR_216_14, ↓gR_216_15, ↓gR_216_16, ↓gR_216_17, ↓gR_216_22, ↓gR_216_23, ↓gR_216_24, ↓gR_216_25, ↓gR_216_27, ↓gR_216_28, ↓gR_216_29, ↓gR_216_31, ↓gR_216_35, ↓gR_216_36, ↓gR_216_37, ↓gR_216_38, ↓gR_216_39, ↓gR_216_43, ↓gR_64_11, ↓gR_64_12, ↓gR_64_13, ↓gR_64_14, ↓gQ_65, ↓gI_A, ↓gL_A, ↓pI_A, ↓pL_A, ↓vv_A, ↓gI_Lw, ↓gL_Lw, ↓pI_Lw, ↓pL_Lw, ↓vv_Lw, ↓gR_A_7, ↓gR_A_8, ↓gR_A_9, ↓gR_A_10, ↓gR_A_11, ↓gR_A_12, ↓gR_A_13, ↓gR_A_14, ↓gR_A_15, ↓gR_A_16, ↓gR_A_17, ↓gR_Lw_0, ↓gR_Lw_1, ↓gR_Lw_2, ↓gR_Lw_3, ↓gR_Lw_4, ↓at_A1, ↓pt_A1, ↓at_A2, ↓pt_A2, ↓at_A3, ↓pt_A3, ↓at_A4, ↓pt_A4, ↓at_A5, ↓pt_A5, ↓at_A6, ↓pt_A6, ↓rd_A7, ↓wr_A7, ↓ln_A7, ↓rd_A8, ↓wr_A8, ↓ln_A8, ↓at_A9, ↓pt_A9, ↓at_A10, ↓pt_A10, ↓at_A12, ↓pt_A12, ↓at_A13, ↓pt_A13, ↓at_A14, ↓pt_A14, ↓at_A15, ↓pt_A15, ↓at_A16, ↓pt_A16, ↓gI_W, ↓gL_W, ↓pI_W, ↓pL_W, ↓vv_W, ↓gR_W_1, ↓gR_W_2, ↓gR_W_3, ↓gR_W_4, ↓at_W1, ↓pt_W1, ↓at_W2, ↓pt_W2, ↓at_W3, ↓pt_W3, ↓at_W4, ↓pt_W4, ↓rdR_92, ↓rdR_93, ↓rdR_94, ↓gI_S, ↓gL_S, ↓pI_S, ↓pL_S, ↓vv_S, ↓gR_S_0, ↓gR_S_1, ↓at_S1, ↓pt_S1, ↓at_S2, ↓pt_S2, ↓gI_N, ↓gL_N, ↓pI_N, ↓pL_N, ↓vv_N, ↓gR_N_0, ↓gR_N_1, ↓gR_N_2, ↓at_N1, ↓pt_N1, ↓at_N2, ↓pt_N2, ↓at_N3, ↓pt_N3, ↓pB_S, ↓pB_S0, ↓pB_S1, ↓pB_770, ↓pB_771, ↓at_6, ↓pt_6, ↓atN, ↓ptN, ↓cS, ↓bS, ↓zol, ↓zrb, ↓zrb0, ↓zrb1, ↓reduceIte, z32_s, z32_n, zb_test, zn_add, zn_mul, zn_addN, zn_sub, zU_ne, zU_eq, zU_at, zV_ne, zV_eq, zV_at, p_le, p_nle, p_lt, p_nlt, p_eq, p_neq, p_eqN, p_leN, p_ltN, p_Nle, p_Nlt, p_Neq, p_zt0, p_zt1, eq_self, Nat.reduceAdd, Nat.reduceMul, Nat.reduceSub, Nat.reduceEqDiff, Nat.reduceLT, Nat.reduceLeDiff, if_true, if_false, Bool.false_eq_true, not_true_eq_false, not_false_eq_true, reduceCtorEq]
  · rw [if_neg c6]
    obtain ⟨t, M, rfl⟩ := zws_c hL
    rw [List.tail_cons]
    rw [List.length_cons] at hu
    obtain ⟨I1, J1, wd1, s1, s2, s3, _⟩ := stepT (sc := sc) (a := a) (b := b) (w := w) (v := v) hT h
    have hc1 : zDc b I1 J1 D u := hc.fr (fun o q1 q2 => s3.1 o (by simp only [List.mem_cons, List.not_mem_nil, or_false, not_or] <;> omega)) (fun o q1 q2 => s3.2 o (by omega))
    have f1 : zFr [65, b + 1, b + 2, b + 3, b + 4, b + 5, b + 6] I I1 := s3.1.mono (by intro o9 ho9; simp only [List.mem_cons, List.not_mem_nil, or_false] at ho9 ⊢; omega)
    have e1 := hc1.1.1
    have q1 := cnew_e (sc := sc) (a := a) (w := w) (v := v) hb hD hc1 hT s2
    cases hr1 : znn D.2.1 T.length M with
    | error F =>
      rw [hr1] at q1
      obtain ⟨g1, g2, I2, J2, wd2, r1, r2, r3, r4⟩ := q1
      dsimp only at r1
      refine zCA_er hb hD hc (by omega) g1 g2 (wd' := wd2) ?_ r2 (f1.tr (r3.mono (by intro o9 ho9; simp only [List.mem_cons, List.not_mem_nil, or_false] at ho9 ⊢; omega))) (fun o ho => (r4 o ho).trans (s3.2 o ho))
      (try dsimp only)
      rw [ux_Army_readPost]
      simp (disch := first | assumption | omega) only [e0, ↓zoc s1, ↓zoc r1, ↓gI_64, ↓gL_64, ↓pI_64, ↓pL_64, ↓vv_64, ↓gI_65, ↓gL_65, ↓pI_65, ↓pL_65, ↓vv_65, ↓gI_67, ↓gL_67, ↓pI_67, ↓pL_67, ↓vv_67, ↓gI_70, ↓gL_70, ↓pI_70, ↓pL_70, ↓vv_70, ↓gI_73, ↓gL_73, ↓pI_73, ↓pL_73, ↓vv_73, ↓gI_77, ↓gL_77, ↓pI_77, ↓pL_77, ↓vv_77, ↓gI_84, ↓gL_84, ↓pI_84, ↓pL_84, ↓vv_84, ↓gI_90, ↓gL_90, ↓pI_90, ↓pL_90, ↓vv_90, ↓gI_216, ↓gL_216, ↓pI_216, ↓pL_216, ↓vv_216, ↓rd_66, ↓wr_66, ↓ln_66, ↓at_68, ↓pt_68, ↓at_69, ↓pt_69, ↓at_71, ↓pt_71, ↓at_72, ↓pt_72, ↓at_74, ↓pt_74, ↓at_75, ↓pt_75, ↓at_76, ↓pt_76, ↓at_78, ↓pt_78, ↓at_79, ↓pt_79, ↓at_80, ↓pt_80, ↓at_81, ↓pt_81, ↓at_82, ↓pt_82, ↓at_83, ↓pt_83, ↓at_85, ↓pt_85, ↓at_86, ↓pt_86, ↓at_87, ↓pt_87, ↓at_88, ↓pt_88, ↓at_89, ↓pt_89, ↓at_91, ↓pt_91, ↓at_95, ↓pt_95, ↓rd_217, ↓wr_217, ↓ln_217, ↓rd_218, ↓wr_218, ↓ln_218, ↓rd_219, ↓wr_219, ↓ln_219, ↓rd_220, ↓wr_220, ↓ln_220, ↓rd_221, ↓wr_221, ↓ln_221, ↓rd_222, ↓wr_222, ↓ln_222, ↓rd_223, ↓wr_223, ↓ln_223, ↓rd_224, ↓wr_224, ↓ln_224, ↓rd_225, ↓wr_225, ↓ln_225, ↓rd_226, ↓wr_226, ↓ln_226, ↓rd_227, ↓wr_227, ↓ln_227, ↓rd_228, ↓wr_228, ↓ln_228, ↓rd_229, ↓wr_229, ↓ln_229, ↓rd_230, ↓wr_230, ↓ln_230, ↓rd_231, ↓wr_231, ↓ln_231, ↓rd_232, ↓wr_232, ↓ln_232, ↓rd_233, ↓wr_233, ↓ln_233, ↓rd_234, ↓wr_234, ↓ln_234, ↓rd_235, ↓wr_235, ↓ln_235, ↓rd_236, ↓wr_236, ↓ln_236, ↓rd_237, ↓wr_237, ↓ln_237, ↓rd_238, ↓wr_238, ↓ln_238, ↓rd_239, ↓wr_239, ↓ln_239, ↓rd_240, ↓wr_240, ↓ln_240, ↓rd_241, ↓wr_241, ↓ln_241, ↓rd_242, ↓wr_242, ↓ln_242, ↓rd_243, ↓wr_243, ↓ln_243, ↓gR_64_0, ↓gR_64_1, ↓gR_64_2, ↓gR_64_3, ↓gR_64_4, ↓gR_64_5, ↓gR_64_6, ↓gR_64_7, ↓gR_64_8, ↓gR_64_9, ↓gR_64_10, ↓gR_65_0, ↓gR_67_0, ↓gR_67_1, ↓gR_70_0, ↓gR_70_1, ↓gR_73_0, ↓gR_73_1, ↓gR_73_2, ↓gR_77_3, ↓gR_77_4, ↓gR_77_7, ↓gR_77_8, ↓gR_77_9, ↓gR_77_10, ↓gR_84_0, ↓gR_84_1, ↓gR_84_2, ↓gR_84_3, ↓gR_84_4, ↓gR_90_1, ↓gR_216_1, ↓gR_216_4, ↓gR_216_5, ↓gR_216_6, ↓gR_216_9, ↓gR_216_10, ↓gR_216_11, ↓gR_216_12, ↓gR_216_14, ↓gR_216_15, ↓gR_216_16, ↓gR_216_17, ↓gR_216_22, ↓gR_216_23, ↓gR_216_24, ↓gR_216_25, ↓gR_216_27, ↓gR_216_28, ↓gR_216_29, ↓gR_216_31, ↓gR_216_35, ↓gR_216_36, ↓gR_216_37, ↓gR_216_38, ↓gR_216_39, ↓gR_216_43, ↓gR_64_11, ↓gR_64_12, ↓gR_64_13, ↓gR_64_14, ↓gQ_65, ↓gI_A, ↓gL_A, ↓pI_A, ↓pL_A, ↓vv_A, ↓gI_Lw, ↓gL_Lw, ↓pI_Lw, ↓pL_Lw, ↓vv_Lw, ↓gR_A_7, ↓gR_A_8, ↓gR_A_9, ↓gR_A_10, ↓gR_A_11, ↓gR_A_12, ↓gR_A_13, ↓gR_A_14, ↓gR_A_15, ↓gR_A_16, ↓gR_A_17, ↓gR_Lw_0, ↓gR_Lw_1, ↓gR_Lw_2, ↓gR_Lw_3, ↓gR_Lw_4, ↓at_A1, ↓pt_A1, ↓at_A2, ↓pt_A2, ↓at_A3, ↓pt_A3, ↓at_A4, ↓pt_A4, ↓at_A5, ↓pt_A5, ↓at_A6, ↓pt_A6, ↓rd_A7, ↓wr_A7, ↓ln_A7, ↓rd_A8, ↓wr_A8, ↓ln_A8, ↓at_A9, ↓pt_A9, ↓at_A10, ↓pt_A10, ↓at_A12, ↓pt_A12, ↓at_A13, ↓pt_A13, ↓at_A14, ↓pt_A14, ↓at_A15, ↓pt_A15, ↓at_A16, ↓pt_A16, ↓gI_W, ↓gL_W, ↓pI_W, ↓pL_W, ↓vv_W, ↓gR_W_1, ↓gR_W_2, ↓gR_W_3, ↓gR_W_4, ↓at_W1, ↓pt_W1, ↓at_W2, ↓pt_W2, ↓at_W3, ↓pt_W3, ↓at_W4, ↓pt_W4, ↓rdR_92, ↓rdR_93, ↓rdR_94, ↓gI_S, ↓gL_S, ↓pI_S, ↓pL_S, ↓vv_S, ↓gR_S_0, ↓gR_S_1, ↓at_S1, ↓pt_S1, ↓at_S2, ↓pt_S2, ↓gI_N, ↓gL_N, ↓pI_N, ↓pL_N, ↓vv_N, ↓gR_N_0, ↓gR_N_1, ↓gR_N_2, ↓at_N1, ↓pt_N1, ↓at_N2, ↓pt_N2, ↓at_N3, ↓pt_N3, ↓pB_S, ↓pB_S0, ↓pB_S1, ↓pB_770, ↓pB_771, ↓at_6, ↓pt_6, ↓atN, ↓ptN, ↓cS, ↓bS, ↓zol, ↓zrb, ↓zrb0, ↓zrb1, ↓reduceIte, z32_s, z32_n, zb_test, zn_add, zn_mul, zn_addN, zn_sub, zU_ne, zU_eq, zU_at, zV_ne, zV_eq, zV_at, p_le, p_nle, p_lt, p_nlt, p_eq, p_neq, p_eqN, p_leN, p_ltN, p_Nle, p_Nlt, p_Neq, p_zt0, p_zt1, eq_self, Nat.reduceAdd, Nat.reduceMul, Nat.reduceSub, Nat.reduceEqDiff, Nat.reduceLT, Nat.reduceLeDiff, if_true, if_false, Bool.false_eq_true, not_true_eq_false, not_false_eq_true, reduceCtorEq]
    | ok p1 =>
      obtain ⟨L1, nm⟩ := p1
      obtain ⟨n1, n2, n3, n4⟩ := znn_inv hr1
      obtain ⟨w1, w2, _⟩ := znm_w s2 n1
      rw [← n2] at w2
      rw [hr1] at q1
      obtain ⟨I2, J2, wd2, r1, r2, r3, r4, _⟩ := q1
      dsimp only at r1 r2
      have f2 := f1.tr (r3.mono (by intro o9 ho9; simp only [List.mem_cons, List.not_mem_nil, or_false] at ho9 ⊢; omega))
      have j2 : ∀ o, o ≠ 65 → J2 o = J o := fun o ho => (r4 o ho).trans (s3.2 o ho)
      have q2 := cwhich_e (sc := sc) (a := a) (b := b) (w := w) (v := v) hT r2 (u := 4) (by decide) []
      rw [zbn_ok]
      cases hr2 : zwq T.length 4 L1 with
      | error F =>
        rw [hr2] at q2
        obtain ⟨g1, g2, I3, J3, wd3, t1, t2, t3, t4⟩ := q2
        dsimp only at t1
        refine zCA_er hb hD hc (by omega) g1 g2 (wd' := wd3) ?_ t2 (f2.tr (t3.mono (by intro o9 ho9; simp only [List.mem_cons, List.not_mem_nil, or_false] at ho9 ⊢; omega))) (fun o ho => (t4 o ho).trans (j2 o ho))
        (try dsimp only)
        rw [ux_Army_readPost]
        simp (disch := first | assumption | omega) only [e0, ↓zoc s1, ↓zoc r1, ↓zoc t1, ↓gI_64, ↓gL_64, ↓pI_64, ↓pL_64, ↓vv_64, ↓gI_65, ↓gL_65, ↓pI_65, ↓pL_65, ↓vv_65, ↓gI_67, ↓gL_67, ↓pI_67, ↓pL_67, ↓vv_67, ↓gI_70, ↓gL_70, ↓pI_70, ↓pL_70, ↓vv_70, ↓gI_73, ↓gL_73, ↓pI_73, ↓pL_73, ↓vv_73, ↓gI_77, ↓gL_77, ↓pI_77, ↓pL_77, ↓vv_77, ↓gI_84, ↓gL_84, ↓pI_84, ↓pL_84, ↓vv_84, ↓gI_90, ↓gL_90, ↓pI_90, ↓pL_90, ↓vv_90, ↓gI_216, ↓gL_216, ↓pI_216, ↓pL_216, ↓vv_216, ↓rd_66, ↓wr_66, ↓ln_66, ↓at_68, ↓pt_68, ↓at_69, ↓pt_69, ↓at_71, ↓pt_71, ↓at_72, ↓pt_72, ↓at_74, ↓pt_74, ↓at_75, ↓pt_75, ↓at_76, ↓pt_76, ↓at_78, ↓pt_78, ↓at_79, ↓pt_79, ↓at_80, ↓pt_80, ↓at_81, ↓pt_81, ↓at_82, ↓pt_82, ↓at_83, ↓pt_83, ↓at_85, ↓pt_85, ↓at_86, ↓pt_86, ↓at_87, ↓pt_87, ↓at_88, ↓pt_88, ↓at_89, ↓pt_89, ↓at_91, ↓pt_91, ↓at_95, ↓pt_95, ↓rd_217, ↓wr_217, ↓ln_217, ↓rd_218, ↓wr_218, ↓ln_218, ↓rd_219, ↓wr_219, ↓ln_219, ↓rd_220, ↓wr_220, ↓ln_220, ↓rd_221, ↓wr_221, ↓ln_221, ↓rd_222, ↓wr_222, ↓ln_222, ↓rd_223, ↓wr_223, ↓ln_223, ↓rd_224, ↓wr_224, ↓ln_224, ↓rd_225, ↓wr_225, ↓ln_225, ↓rd_226, ↓wr_226, ↓ln_226, ↓rd_227, ↓wr_227, ↓ln_227, ↓rd_228, ↓wr_228, ↓ln_228, ↓rd_229, ↓wr_229, ↓ln_229, ↓rd_230, ↓wr_230, ↓ln_230, ↓rd_231, ↓wr_231, ↓ln_231, ↓rd_232, ↓wr_232, ↓ln_232, ↓rd_233, ↓wr_233, ↓ln_233, ↓rd_234, ↓wr_234, ↓ln_234, ↓rd_235, ↓wr_235, ↓ln_235, ↓rd_236, ↓wr_236, ↓ln_236, ↓rd_237, ↓wr_237, ↓ln_237, ↓rd_238, ↓wr_238, ↓ln_238, ↓rd_239, ↓wr_239, ↓ln_239, ↓rd_240, ↓wr_240, ↓ln_240, ↓rd_241, ↓wr_241, ↓ln_241, ↓rd_242, ↓wr_242, ↓ln_242, ↓rd_243, ↓wr_243, ↓ln_243, ↓gR_64_0, ↓gR_64_1, ↓gR_64_2, ↓gR_64_3, ↓gR_64_4, ↓gR_64_5, ↓gR_64_6, ↓gR_64_7, ↓gR_64_8, ↓gR_64_9, ↓gR_64_10, ↓gR_65_0, ↓gR_67_0, ↓gR_67_1, ↓gR_70_0, ↓gR_70_1, ↓gR_73_0, ↓gR_73_1, ↓gR_73_2, ↓gR_77_3, ↓gR_77_4, ↓gR_77_7, ↓gR_77_8, ↓gR_77_9, ↓gR_77_10, ↓gR_84_0, ↓gR_84_1, ↓gR_84_2, ↓gR_84_3, ↓gR_84_4, ↓gR_90_1, ↓gR_216_1, ↓gR_216_4, ↓gR_216_5, ↓gR_216_6, ↓gR_216_9, ↓gR_216_10, ↓gR_216_11, ↓gR_216_12, ↓gR_216_14, ↓gR_216_15, ↓gR_216_16, ↓gR_216_17, ↓gR_216_22, ↓gR_216_23, ↓gR_216_24, ↓gR_216_25, ↓gR_216_27, ↓gR_216_28, ↓gR_216_29, ↓gR_216_31, ↓gR_216_35, ↓gR_216_36, ↓gR_216_37, ↓gR_216_38, ↓gR_216_39, ↓gR_216_43, ↓gR_64_11, ↓gR_64_12, ↓gR_64_13, ↓gR_64_14, ↓gQ_65, ↓gI_A, ↓gL_A, ↓pI_A, ↓pL_A, ↓vv_A, ↓gI_Lw, ↓gL_Lw, ↓pI_Lw, ↓pL_Lw, ↓vv_Lw, ↓gR_A_7, ↓gR_A_8, ↓gR_A_9, ↓gR_A_10, ↓gR_A_11, ↓gR_A_12, ↓gR_A_13, ↓gR_A_14, ↓gR_A_15, ↓gR_A_16, ↓gR_A_17, ↓gR_Lw_0, ↓gR_Lw_1, ↓gR_Lw_2, ↓gR_Lw_3, ↓gR_Lw_4, ↓at_A1, ↓pt_A1, ↓at_A2, ↓pt_A2, ↓at_A3, ↓pt_A3, ↓at_A4, ↓pt_A4, ↓at_A5, ↓pt_A5, ↓at_A6, ↓pt_A6, ↓rd_A7, ↓wr_A7, ↓ln_A7, ↓rd_A8, ↓wr_A8, ↓ln_A8, ↓at_A9, ↓pt_A9, ↓at_A10, ↓pt_A10, ↓at_A12, ↓pt_A12, ↓at_A13, ↓pt_A13, ↓at_A14, ↓pt_A14, ↓at_A15, ↓pt_A15, ↓at_A16, ↓pt_A16, ↓gI_W, ↓gL_W, ↓pI_W, ↓pL_W, ↓vv_W, ↓gR_W_1, ↓gR_W_2, ↓gR_W_3, ↓gR_W_4, ↓at_W1, ↓pt_W1, ↓at_W2, ↓pt_W2, ↓at_W3, ↓pt_W3, ↓at_W4, ↓pt_W4, ↓rdR_92, ↓rdR_93, ↓rdR_94, ↓gI_S, ↓gL_S, ↓pI_S, ↓pL_S, ↓vv_S, ↓gR_S_0, ↓gR_S_1, ↓at_S1, ↓pt_S1, ↓at_S2, ↓pt_S2, ↓gI_N, ↓gL_N, ↓pI_N, ↓pL_N, ↓vv_N, ↓gR_N_0, ↓gR_N_1, ↓gR_N_2, ↓at_N1, ↓pt_N1, ↓at_N2, ↓pt_N2, ↓at_N3, ↓pt_N3, ↓pB_S, ↓pB_S0, ↓pB_S1, ↓pB_770, ↓pB_771, ↓at_6, ↓pt_6, ↓atN, ↓ptN, ↓cS, ↓bS, ↓zol, ↓zrb, ↓zrb0, ↓zrb1, ↓reduceIte, z32_s, z32_n, zb_test, zn_add, zn_mul, zn_addN, zn_sub, zU_ne, zU_eq, zU_at, zV_ne, zV_eq, zV_at, p_le, p_nle, p_lt, p_nlt, p_eq, p_neq, p_eqN, p_leN, p_ltN, p_Nle, p_Nlt, p_Neq, p_zt0, p_zt1, eq_self, Nat.reduceAdd, Nat.reduceMul, Nat.reduceSub, Nat.reduceEqDiff, Nat.reduceLT, Nat.reduceLeDiff, if_true, if_false, Bool.false_eq_true, not_true_eq_false, not_false_eq_true, reduceCtorEq]
      | ok p2 =>
        obtain ⟨L2, kd⟩ := p2
        have hkd := zwh_34.2.1 (zwq_inv hr2).1
        rw [hr2] at q2
        obtain ⟨I3, J3, wd3, t1, t2, t3, t4, t5⟩ := q2
        dsimp only at t1 t2 t5
        have f3 := f2.tr (t3.mono (by intro o9 ho9; simp only [List.mem_cons, List.not_mem_nil, or_false] at ho9 ⊢; omega))
        have j3 : ∀ o, o ≠ 65 → J3 o = J o := fun o ho => (t4 o ho).trans (j2 o ho)
        have e3 : I3 b 0 = zn (aP D.1) := by rw [f3 b (by simp only [List.mem_cons, List.not_mem_nil, or_false, not_or] <;> omega)]; exact e0
        obtain ⟨I4, hI4⟩ : ∃ I4, I4 = zU I3 (b + 1) (aP D.1) (zn kd) := ⟨_, rfl⟩
        have f4 : zFr [b + 1] I3 I4 := by rw [hI4]; exact (zFr.refl _ I3).u (by simp only [List.mem_cons, List.not_mem_nil, or_false, true_or, or_true] <;> omega)
        have q3 := cword_e (sc := sc) (a := a) (b := b) (w := w) (v := v) hT (t2.fr65 f4 (by simp only [List.mem_cons, List.not_mem_nil, or_false, not_or] <;> omega) (by simp only [List.mem_cons, List.not_mem_nil, or_false, not_or] <;> omega)) (i := 2) (by decide) []
        have f4' := f3.tr (f4.mono (by intro o9 ho9; simp only [List.mem_cons, List.not_mem_nil, or_false] at ho9 ⊢; omega))
        rw [zbn_ok]
        cases hr3 : zwo T.length 2 L2 with
        | error F =>
          rw [hr3] at q3
          obtain ⟨g1, g2, I5, J5, wd5, z1, z2, z3, z4⟩ := q3
          dsimp only at z1
          rw [hI4] at z1
          refine zCA_er hb hD hc (by omega) g1 g2 (wd' := wd5) ?_ z2 (f4'.tr (z3.mono (by intro o9 ho9; simp only [List.mem_cons, List.not_mem_nil, or_false] at ho9 ⊢; omega))) (fun o ho => (z4 o ho).trans (j3 o ho))
          (try dsimp only)
          rw [ux_Army_readPost]
          simp (disch := first | assumption | omega) only [e0, ↓zoc s1, ↓zoc r1, ↓zoc t1, e3, t5, ↓zoc z1, ↓gI_64, ↓gL_64, ↓pI_64, ↓pL_64, ↓vv_64, ↓gI_65, ↓gL_65, ↓pI_65, ↓pL_65, ↓vv_65, ↓gI_67, ↓gL_67, ↓pI_67, ↓pL_67, ↓vv_67, ↓gI_70, ↓gL_70, ↓pI_70, ↓pL_70, ↓vv_70, ↓gI_73, ↓gL_73, ↓pI_73, ↓pL_73, ↓vv_73, ↓gI_77, ↓gL_77, ↓pI_77, ↓pL_77, ↓vv_77, ↓gI_84, ↓gL_84, ↓pI_84, ↓pL_84, ↓vv_84, ↓gI_90, ↓gL_90, ↓pI_90, ↓pL_90, ↓vv_90, ↓gI_216, ↓gL_216, ↓pI_216, ↓pL_216, ↓vv_216, ↓rd_66, ↓wr_66, ↓ln_66, ↓at_68, ↓pt_68, ↓at_69, ↓pt_69, ↓at_71, ↓pt_71, ↓at_72, ↓pt_72, ↓at_74, ↓pt_74, ↓at_75, ↓pt_75, ↓at_76, ↓pt_76, ↓at_78, ↓pt_78, ↓at_79, ↓pt_79, ↓at_80, ↓pt_80, ↓at_81, ↓pt_81, ↓at_82, ↓pt_82, ↓at_83, ↓pt_83, ↓at_85, ↓pt_85, ↓at_86, ↓pt_86, ↓at_87, ↓pt_87, ↓at_88, ↓pt_88, ↓at_89, ↓pt_89, ↓at_91, ↓pt_91, ↓at_95, ↓pt_95, ↓rd_217, ↓wr_217, ↓ln_217, ↓rd_218, ↓wr_218, ↓ln_218, ↓rd_219, ↓wr_219, ↓ln_219, ↓rd_220, ↓wr_220, ↓ln_220, ↓rd_221, ↓wr_221, ↓ln_221, ↓rd_222, ↓wr_222, ↓ln_222, ↓rd_223, ↓wr_223, ↓ln_223, ↓rd_224, ↓wr_224, ↓ln_224, ↓rd_225, ↓wr_225, ↓ln_225, ↓rd_226, ↓wr_226, ↓ln_226, ↓rd_227, ↓wr_227, ↓ln_227, ↓rd_228, ↓wr_228, ↓ln_228, ↓rd_229, ↓wr_229, ↓ln_229, ↓rd_230, ↓wr_230, ↓ln_230, ↓rd_231, ↓wr_231, ↓ln_231, ↓rd_232, ↓wr_232, ↓ln_232, ↓rd_233, ↓wr_233, ↓ln_233, ↓rd_234, ↓wr_234, ↓ln_234, ↓rd_235, ↓wr_235, ↓ln_235, ↓rd_236, ↓wr_236, ↓ln_236, ↓rd_237, ↓wr_237, ↓ln_237, ↓rd_238, ↓wr_238, ↓ln_238, ↓rd_239, ↓wr_239, ↓ln_239, ↓rd_240, ↓wr_240, ↓ln_240, ↓rd_241, ↓wr_241, ↓ln_241, ↓rd_242, ↓wr_242, ↓ln_242, ↓rd_243, ↓wr_243, ↓ln_243, ↓gR_64_0, ↓gR_64_1, ↓gR_64_2, ↓gR_64_3, ↓gR_64_4, ↓gR_64_5, ↓gR_64_6, ↓gR_64_7, ↓gR_64_8, ↓gR_64_9, ↓gR_64_10, ↓gR_65_0, ↓gR_67_0, ↓gR_67_1, ↓gR_70_0, ↓gR_70_1, ↓gR_73_0, ↓gR_73_1, ↓gR_73_2, ↓gR_77_3, ↓gR_77_4, ↓gR_77_7, ↓gR_77_8, ↓gR_77_9, ↓gR_77_10, ↓gR_84_0, ↓gR_84_1, ↓gR_84_2, ↓gR_84_3, ↓gR_84_4, ↓gR_90_1, ↓gR_216_1, ↓gR_216_4, ↓gR_216_5, ↓gR_216_6, ↓gR_216_9, ↓gR_216_10, ↓gR_216_11, ↓gR_216_12, ↓gR_216_14, ↓gR_216_15, ↓gR_216_16, ↓gR_216_17, ↓gR_216_22, ↓gR_216_23, ↓gR_216_24, ↓gR_216_25, ↓gR_216_27, ↓gR_216_28, ↓gR_216_29, ↓gR_216_31, ↓gR_216_35, ↓gR_216_36, ↓gR_216_37, ↓gR_216_38, ↓gR_216_39, ↓gR_216_43, ↓gR_64_11, ↓gR_64_12, ↓gR_64_13, ↓gR_64_14, ↓gQ_65, ↓gI_A, ↓gL_A, ↓pI_A, ↓pL_A, ↓vv_A, ↓gI_Lw, ↓gL_Lw, ↓pI_Lw, ↓pL_Lw, ↓vv_Lw, ↓gR_A_7, ↓gR_A_8, ↓gR_A_9, ↓gR_A_10, ↓gR_A_11, ↓gR_A_12, ↓gR_A_13, ↓gR_A_14, ↓gR_A_15, ↓gR_A_16, ↓gR_A_17, ↓gR_Lw_0, ↓gR_Lw_1, ↓gR_Lw_2, ↓gR_Lw_3, ↓gR_Lw_4, ↓at_A1, ↓pt_A1, ↓at_A2, ↓pt_A2, ↓at_A3, ↓pt_A3, ↓at_A4, ↓pt_A4, ↓at_A5, ↓pt_A5, ↓at_A6, ↓pt_A6, ↓rd_A7, ↓wr_A7, ↓ln_A7, ↓rd_A8, ↓wr_A8, ↓ln_A8, ↓at_A9, ↓pt_A9, ↓at_A10, ↓pt_A10, ↓at_A12, ↓pt_A12, ↓at_A13, ↓pt_A13, ↓at_A14, ↓pt_A14, ↓at_A15, ↓pt_A15, ↓at_A16, ↓pt_A16, ↓gI_W, ↓gL_W, ↓pI_W, ↓pL_W, ↓vv_W, ↓gR_W_1, ↓gR_W_2, ↓gR_W_3, ↓gR_W_4, ↓at_W1, ↓pt_W1, ↓at_W2, ↓pt_W2, ↓at_W3, ↓pt_W3, ↓at_W4, ↓pt_W4, ↓rdR_92, ↓rdR_93, ↓rdR_94, ↓gI_S, ↓gL_S, ↓pI_S, ↓pL_S, ↓vv_S, ↓gR_S_0, ↓gR_S_1, ↓at_S1, ↓pt_S1, ↓at_S2, ↓pt_S2, ↓gI_N, ↓gL_N, ↓pI_N, ↓pL_N, ↓vv_N, ↓gR_N_0, ↓gR_N_1, ↓gR_N_2, ↓at_N1, ↓pt_N1, ↓at_N2, ↓pt_N2, ↓at_N3, ↓pt_N3, ↓pB_S, ↓pB_S0, ↓pB_S1, ↓pB_770, ↓pB_771, ↓at_6, ↓pt_6, ↓atN, ↓ptN, ↓cS, ↓bS, ↓zol, ↓zrb, ↓zrb0, ↓zrb1, ↓reduceIte, z32_s, z32_n, zb_test, zn_add, zn_mul, zn_addN, zn_sub, zU_ne, zU_eq, zU_at, zV_ne, zV_eq, zV_at, p_le, p_nle, p_lt, p_nlt, p_eq, p_neq, p_eqN, p_leN, p_ltN, p_Nle, p_Nlt, p_Neq, p_zt0, p_zt1, eq_self, Nat.reduceAdd, Nat.reduceMul, Nat.reduceSub, Nat.reduceEqDiff, Nat.reduceLT, Nat.reduceLeDiff, if_true, if_false, Bool.false_eq_true, not_true_eq_false, not_false_eq_true, reduceCtorEq]
        | ok p3 =>
          obtain ⟨L3, x3⟩ := p3
          rw [hr3] at q3
          obtain ⟨I5, J5, wd5, z1, z2, z3, z4, _⟩ := q3
          dsimp only at z1 z2
          rw [hI4] at z1
          have f5 := f4'.tr (z3.mono (by intro o9 ho9; simp only [List.mem_cons, List.not_mem_nil, or_false] at ho9 ⊢; omega))
          have j5 : ∀ o, o ≠ 65 → J5 o = J o := fun o ho => (z4 o ho).trans (j3 o ho)
          have q4 := cnumber_e (sc := sc) (a := a) (b := b) (w := w) (v := v) hT z2 (lo := 1) (hi := 9) (by decide) (by decide) []
          rw [zbn_ok]
          cases hr4 : znb T.length 1 9 L3 with
          | error F =>
            rw [hr4] at q4
            obtain ⟨g1, g2, I6, J6, wd6, y1, y2, y3, y4⟩ := q4
            dsimp only at y1
            refine zCA_er hb hD hc (by omega) g1 g2 (wd' := wd6) ?_ y2 (f5.tr (y3.mono (by intro o9 ho9; simp only [List.mem_cons, List.not_mem_nil, or_false] at ho9 ⊢; omega))) (fun o ho => (y4 o ho).trans (j5 o ho))
            (try dsimp only)
            rw [ux_Army_readPost]
            simp (disch := first | assumption | omega) only [e0, ↓zoc s1, ↓zoc r1, ↓zoc t1, e3, t5, ↓zoc z1, ↓zoc y1, ↓gI_64, ↓gL_64, ↓pI_64, ↓pL_64, ↓vv_64, ↓gI_65, ↓gL_65, ↓pI_65, ↓pL_65, ↓vv_65, ↓gI_67, ↓gL_67, ↓pI_67, ↓pL_67, ↓vv_67, ↓gI_70, ↓gL_70, ↓pI_70, ↓pL_70, ↓vv_70, ↓gI_73, ↓gL_73, ↓pI_73, ↓pL_73, ↓vv_73, ↓gI_77, ↓gL_77, ↓pI_77, ↓pL_77, ↓vv_77, ↓gI_84, ↓gL_84, ↓pI_84, ↓pL_84, ↓vv_84, ↓gI_90, ↓gL_90, ↓pI_90, ↓pL_90, ↓vv_90, ↓gI_216, ↓gL_216, ↓pI_216, ↓pL_216, ↓vv_216, ↓rd_66, ↓wr_66, ↓ln_66, ↓at_68, ↓pt_68, ↓at_69, ↓pt_69, ↓at_71, ↓pt_71, ↓at_72, ↓pt_72, ↓at_74, ↓pt_74, ↓at_75, ↓pt_75, ↓at_76, ↓pt_76, ↓at_78, ↓pt_78, ↓at_79, ↓pt_79, ↓at_80, ↓pt_80, ↓at_81, ↓pt_81, ↓at_82, ↓pt_82, ↓at_83, ↓pt_83, ↓at_85, ↓pt_85, ↓at_86, ↓pt_86, ↓at_87, ↓pt_87, ↓at_88, ↓pt_88, ↓at_89, ↓pt_89, ↓at_91, ↓pt_91, ↓at_95, ↓pt_95, ↓rd_217, ↓wr_217, ↓ln_217, ↓rd_218, ↓wr_218, ↓ln_218, ↓rd_219, ↓wr_219, ↓ln_219, ↓rd_220, ↓wr_220, ↓ln_220, ↓rd_221, ↓wr_221, ↓ln_221, ↓rd_222, ↓wr_222, ↓ln_222, ↓rd_223, ↓wr_223, ↓ln_223, ↓rd_224, ↓wr_224, ↓ln_224, ↓rd_225, ↓wr_225, ↓ln_225, ↓rd_226, ↓wr_226, ↓ln_226, ↓rd_227, ↓wr_227, ↓ln_227, ↓rd_228, ↓wr_228, ↓ln_228, ↓rd_229, ↓wr_229, ↓ln_229, ↓rd_230, ↓wr_230, ↓ln_230, ↓rd_231, ↓wr_231, ↓ln_231, ↓rd_232, ↓wr_232, ↓ln_232, ↓rd_233, ↓wr_233, ↓ln_233, ↓rd_234, ↓wr_234, ↓ln_234, ↓rd_235, ↓wr_235, ↓ln_235, ↓rd_236, ↓wr_236, ↓ln_236, ↓rd_237, ↓wr_237, ↓ln_237, ↓rd_238, ↓wr_238, ↓ln_238, ↓rd_239, ↓wr_239, ↓ln_239, ↓rd_240, ↓wr_240, ↓ln_240, ↓rd_241, ↓wr_241, ↓ln_241, ↓rd_242, ↓wr_242, ↓ln_242, ↓rd_243, ↓wr_243, ↓ln_243, ↓gR_64_0, ↓gR_64_1, ↓gR_64_2, ↓gR_64_3, ↓gR_64_4, ↓gR_64_5, ↓gR_64_6, ↓gR_64_7, ↓gR_64_8, ↓gR_64_9, ↓gR_64_10, ↓gR_65_0, ↓gR_67_0, ↓gR_67_1, ↓gR_70_0, ↓gR_70_1, ↓gR_73_0, ↓gR_73_1, ↓gR_73_2, ↓gR_77_3, ↓gR_77_4, ↓gR_77_7, ↓gR_77_8, ↓gR_77_9, ↓gR_77_10, ↓gR_84_0, ↓gR_84_1, ↓gR_84_2, ↓gR_84_3, ↓gR_84_4, ↓gR_90_1, ↓gR_216_1, ↓gR_216_4, ↓gR_216_5, ↓gR_216_6, ↓gR_216_9, ↓gR_216_10, ↓gR_216_11, ↓gR_216_12, ↓gR_216_14, ↓gR_216_15, ↓gR_216_16, ↓gR_216_17, ↓gR_216_22, ↓gR_216_23, ↓gR_216_24, ↓gR_216_25, ↓gR_216_27, ↓gR_216_28, ↓gR_216_29, ↓gR_216_31, ↓gR_216_35, ↓gR_216_36, ↓gR_216_37, ↓gR_216_38, ↓gR_216_39, ↓gR_216_43, ↓gR_64_11, ↓gR_64_12, ↓gR_64_13, ↓gR_64_14, ↓gQ_65, ↓gI_A, ↓gL_A, ↓pI_A, ↓pL_A, ↓vv_A, ↓gI_Lw, ↓gL_Lw, ↓pI_Lw, ↓pL_Lw, ↓vv_Lw, ↓gR_A_7, ↓gR_A_8, ↓gR_A_9, ↓gR_A_10, ↓gR_A_11, ↓gR_A_12, ↓gR_A_13, ↓gR_A_14, ↓gR_A_15, ↓gR_A_16, ↓gR_A_17, ↓gR_Lw_0, ↓gR_Lw_1, ↓gR_Lw_2, ↓gR_Lw_3, ↓gR_Lw_4, ↓at_A1, ↓pt_A1, ↓at_A2, ↓pt_A2, ↓at_A3, ↓pt_A3, ↓at_A4, ↓pt_A4, ↓at_A5, ↓pt_A5, ↓at_A6, ↓pt_A6, ↓rd_A7, ↓wr_A7, ↓ln_A7, ↓rd_A8, ↓wr_A8, ↓ln_A8, ↓at_A9, ↓pt_A9, ↓at_A10, ↓pt_A10, ↓at_A12, ↓pt_A12, ↓at_A13, ↓pt_A13, ↓at_A14, ↓pt_A14, ↓at_A15, ↓pt_A15, ↓at_A16, ↓pt_A16, ↓gI_W, ↓gL_W, ↓pI_W, ↓pL_W, ↓vv_W, ↓gR_W_1, ↓gR_W_2, ↓gR_W_3, ↓gR_W_4, ↓at_W1, ↓pt_W1, ↓at_W2, ↓pt_W2, ↓at_W3, ↓pt_W3, ↓at_W4, ↓pt_W4, ↓rdR_92, ↓rdR_93, ↓rdR_94, ↓gI_S, ↓gL_S, ↓pI_S, ↓pL_S, ↓vv_S, ↓gR_S_0, ↓gR_S_1, ↓at_S1, ↓pt_S1, ↓at_S2, ↓pt_S2, ↓gI_N, ↓gL_N, ↓pI_N, ↓pL_N, ↓vv_N, ↓gR_N_0, ↓gR_N_1, ↓gR_N_2, ↓at_N1, ↓pt_N1, ↓at_N2, ↓pt_N2, ↓at_N3, ↓pt_N3, ↓pB_S, ↓pB_S0, ↓pB_S1, ↓pB_770, ↓pB_771, ↓at_6, ↓pt_6, ↓atN, ↓ptN, ↓cS, ↓bS, ↓zol, ↓zrb, ↓zrb0, ↓zrb1, ↓reduceIte, z32_s, z32_n, zb_test, zn_add, zn_mul, zn_addN, zn_sub, zU_ne, zU_eq, zU_at, zV_ne, zV_eq, zV_at, p_le, p_nle, p_lt, p_nlt, p_eq, p_neq, p_eqN, p_leN, p_ltN, p_Nle, p_Nlt, p_Neq, p_zt0, p_zt1, eq_self, Nat.reduceAdd, Nat.reduceMul, Nat.reduceSub, Nat.reduceEqDiff, Nat.reduceLT, Nat.reduceLeDiff, if_true, if_false, Bool.false_eq_true, not_true_eq_false, not_false_eq_true, reduceCtorEq]
          | ok p4 =>
            obtain ⟨L4, wg⟩ := p4
            obtain ⟨d1, d2, d3, _⟩ := znb_inv hr4
            rw [hr4] at q4
            obtain ⟨I6, J6, wd6, y1, y2, y3, y4, y5⟩ := q4
            dsimp only at y1 y2 y5
            have f6 := f5.tr (y3.mono (by intro o9 ho9; simp only [List.mem_cons, List.not_mem_nil, or_false] at ho9 ⊢; omega))
            have j6 : ∀ o, o ≠ 65 → J6 o = J o := fun o ho => (y4 o ho).trans (j5 o ho)
            have e6 : I6 b 0 = zn (aP D.1) := by rw [f6 b (by simp only [List.mem_cons, List.not_mem_nil, or_false, not_or] <;> omega)]; exact e0
            have k6 : ∀ p, I6 (b + 1) p = if p = aP D.1 then zn kd else I (b + 1) p := fun p => by
              rw [y3 (b + 1) (by simp only [List.mem_cons, List.not_mem_nil, or_false, not_or] <;> omega), z3 (b + 1) (by simp only [List.mem_cons, List.not_mem_nil, or_false, not_or] <;> omega), hI4, zU_at, t3 (b + 1) (by simp only [List.mem_cons, List.not_mem_nil, or_false, not_or] <;> omega), r3 (b + 1) (by simp only [List.mem_cons, List.not_mem_nil, or_false, not_or] <;> omega), s3.1 (b + 1) (by simp only [List.mem_cons, List.not_mem_nil, or_false, not_or] <;> omega)]
            have k6b : I6 (b + 2) = I (b + 2) := by rw [y3 (b + 2) (by simp only [List.mem_cons, List.not_mem_nil, or_false, not_or] <;> omega), z3 (b + 2) (by simp only [List.mem_cons, List.not_mem_nil, or_false, not_or] <;> omega), f4 (b + 2) (by simp only [List.mem_cons, List.not_mem_nil, or_false, not_or] <;> omega), t3 (b + 2) (by simp only [List.mem_cons, List.not_mem_nil, or_false, not_or] <;> omega), r3 (b + 2) (by simp only [List.mem_cons, List.not_mem_nil, or_false, not_or] <;> omega), s3.1 (b + 2) (by simp only [List.mem_cons, List.not_mem_nil, or_false, not_or] <;> omega)]
            have k6c : I6 (b + 3) = I (b + 3) := by rw [y3 (b + 3) (by simp only [List.mem_cons, List.not_mem_nil, or_false, not_or] <;> omega), z3 (b + 3) (by simp only [List.mem_cons, List.not_mem_nil, or_false, not_or] <;> omega), f4 (b + 3) (by simp only [List.mem_cons, List.not_mem_nil, or_false, not_or] <;> omega), t3 (b + 3) (by simp only [List.mem_cons, List.not_mem_nil, or_false, not_or] <;> omega), r3 (b + 3) (by simp only [List.mem_cons, List.not_mem_nil, or_false, not_or] <;> omega), s3.1 (b + 3) (by simp only [List.mem_cons, List.not_mem_nil, or_false, not_or] <;> omega)]
            have k6o : ∀ o, b + 4 ≤ o → o ≤ b + 16 → I6 o = I o := fun o o1 o2 => by rw [y3 o (by simp only [List.mem_cons, List.not_mem_nil, or_false, not_or] <;> omega), z3 o (by simp only [List.mem_cons, List.not_mem_nil, or_false, not_or] <;> omega), f4 o (by simp only [List.mem_cons, List.not_mem_nil, or_false, not_or] <;> omega), t3 o (by simp only [List.mem_cons, List.not_mem_nil, or_false, not_or] <;> omega), r3 o (by simp only [List.mem_cons, List.not_mem_nil, or_false, not_or] <;> omega), s3.1 o (by simp only [List.mem_cons, List.not_mem_nil, or_false, not_or] <;> omega)]
            have k6z : I6 b = I b := by rw [y3 b (by simp only [List.mem_cons, List.not_mem_nil, or_false, not_or] <;> omega), z3 b (by simp only [List.mem_cons, List.not_mem_nil, or_false, not_or] <;> omega), f4 b (by simp only [List.mem_cons, List.not_mem_nil, or_false, not_or] <;> omega), t3 b (by simp only [List.mem_cons, List.not_mem_nil, or_false, not_or] <;> omega), r3 b (by simp only [List.mem_cons, List.not_mem_nil, or_false, not_or] <;> omega), s3.1 b (by simp only [List.mem_cons, List.not_mem_nil, or_false, not_or] <;> omega)]
            obtain ⟨I7, hI7⟩ : ∃ I7, I7 = zU (zU I6 (b + 2) (aP D.1) (zn wg)) (b + 3) (aP D.1) zN := ⟨_, rfl⟩
            have f7 : zFr [b + 2, b + 3] I6 I7 := by rw [hI7]; exact ((zFr.refl _ I6).u (by simp only [List.mem_cons, List.not_mem_nil, or_false, true_or, or_true] <;> omega)).u (by simp only [List.mem_cons, List.not_mem_nil, or_false, true_or, or_true] <;> omega)
            have s7 := y2.fr65 f7 (by simp only [List.mem_cons, List.not_mem_nil, or_false, not_or] <;> omega) (by simp only [List.mem_cons, List.not_mem_nil, or_false, not_or] <;> omega)
            have hok := zokw y2
            have hwq := y2.wq
            have r71 : ∀ p, I7 (b + 1) p = if p = aP D.1 then zn kd else I (b + 1) p := fun p => by rw [f7 (b + 1) (by simp only [List.mem_cons, List.not_mem_nil, or_false, not_or] <;> omega)]; exact k6 p
            have r72 : ∀ p, I7 (b + 2) p = if p = aP D.1 then zn wg else I (b + 2) p := fun p => by rw [hI7, zU_ne (by omega), zU_at, k6b]
            have r73 : ∀ p, I7 (b + 3) p = if p = aP D.1 then zN else I (b + 3) p := fun p => by rw [hI7, zU_at, zU_ne (by omega), k6c]
            have r7o : ∀ o, b + 4 ≤ o → o ≤ b + 16 → I7 o = I o := fun o o1 o2 => by rw [f7 o (by simp only [List.mem_cons, List.not_mem_nil, or_false, not_or] <;> omega)]; exact k6o o o1 o2
            have r7z : I7 b = I b := by rw [f7 b (by simp only [List.mem_cons, List.not_mem_nil, or_false, not_or] <;> omega)]; exact k6z
            have e7 : I7 b 0 = zn (aP D.1) := by rw [r7z]; exact e0
            have lM : L4.length ≤ M.length := by
              have l1 : L1.length ≤ M.length := by rw [n4]; exact ztl
              have l2 : L2.length ≤ L1.length := by rw [(zwq_inv hr2).2.1]; exact ztl
              have l3 : L3.length ≤ L2.length := by rw [(zwo_inv hr3).2]; exact ztl
              have l4 : L4.length ≤ L3.length := by rw [d3]; exact ztl
              omega
            -- the end of it
            have fin : ∀ I8 J8 wd8 L8 un, zTs I8 J8 wd8 T L8 → zFr [65, b + 3] I7 I8 → (∀ o, o ≠ 65 → J8 o = J o) → I8 (b + 3) (aP D.1) = z32 un → (∀ p, p ≠ aP D.1 → I8 (b + 3) p = I7 (b + 3) p) → L8.length ≤ M.length → zx_Army_readPost sc b 65 (zG I J (a, b, w, v, wd)) = some (zn 1, zG (zU I8 b 0 (zn (aP D.1 + 1))) (zV J8 (b + 7) (aP D.1) (zl (zcw 27 nm 0))) (a, b, w, v, wd8)) → zCA T a b w v (fun h => zx_Army_readPost sc b 65 h) I J wd (.ok (L8, (zAp D.1 kd wg un, D.2.1 ++ [(nm, aP D.1)], D.2.2))) := by
              intro I8 J8 wd8 L8 un hs8 f8 j8 u1 u2 hl8 ee
              obtain ⟨I9, hI9⟩ : ∃ I9, I9 = zU I8 b 0 (zn (aP D.1 + 1)) := ⟨_, rfl⟩
              rw [← hI9] at ee
              have f9 : zFr [b] I8 I9 := by rw [hI9]; exact (zFr.refl _ I8).u (by simp only [List.mem_cons, List.not_mem_nil, or_false, true_or, or_true] <;> omega)
              refine ⟨I9, _, wd8, u, ee, ?_, ⟨fun o q1 q2 => ?_, fun o q1 q2 q3 => ?_⟩, ?_, by show u + L8.length ≤ 1000; omega⟩
              · exact (hs8.fr65 f9 (by simp only [List.mem_cons, List.not_mem_nil, or_false, not_or] <;> omega) (by simp only [List.mem_cons, List.not_mem_nil, or_false, not_or] <;> omega)).jv (by rw [zV_ne (by omega)])
              · rw [f9 o (by simp only [List.mem_cons, List.not_mem_nil, or_false, not_or] <;> omega), f8 o (by simp only [List.mem_cons, List.not_mem_nil, or_false, not_or] <;> omega), f7 o (by simp only [List.mem_cons, List.not_mem_nil, or_false, not_or] <;> omega), f6 o (by simp only [List.mem_cons, List.not_mem_nil, or_false, not_or] <;> omega)]
              · rw [zV_ne q2]; exact j8 o q1
              · refine zDc.post (I := I) (J := J) hD (by omega) hc (by rw [hI9, zU_eq]) (fun k hk => ?_) (fun p hp => ?_) ⟨?_, ?_, ?_⟩ (fun o o1 o2 => ?_) (fun o o1 o2 => ?_) (fun i hi => ?_) ?_ ?_
                · rw [hI9, zU_ne2 hk, f8 b (by simp only [List.mem_cons, List.not_mem_nil, or_false, not_or] <;> omega), r7z]
                · rw [f9 (b + 1) (by simp only [List.mem_cons, List.not_mem_nil, or_false, not_or] <;> omega), f9 (b + 2) (by simp only [List.mem_cons, List.not_mem_nil, or_false, not_or] <;> omega), f9 (b + 3) (by simp only [List.mem_cons, List.not_mem_nil, or_false, not_or] <;> omega), f8 (b + 1) (by simp only [List.mem_cons, List.not_mem_nil, or_false, not_or] <;> omega), f8 (b + 2) (by simp only [List.mem_cons, List.not_mem_nil, or_false, not_or] <;> omega), u2 p (by omega), r71, r72, r73, if_neg (by omega), if_neg (by omega), if_neg (by omega)]
                  exact ⟨rfl, rfl, rfl⟩
                · rw [f9 (b + 1) (by simp only [List.mem_cons, List.not_mem_nil, or_false, not_or] <;> omega), f8 (b + 1) (by simp only [List.mem_cons, List.not_mem_nil, or_false, not_or] <;> omega), r71, if_pos rfl]
                · rw [f9 (b + 2) (by simp only [List.mem_cons, List.not_mem_nil, or_false, not_or] <;> omega), f8 (b + 2) (by simp only [List.mem_cons, List.not_mem_nil, or_false, not_or] <;> omega), r72, if_pos rfl]
                · rw [f9 (b + 3) (by simp only [List.mem_cons, List.not_mem_nil, or_false, not_or] <;> omega)]; exact u1
                · rw [f9 o (by simp only [List.mem_cons, List.not_mem_nil, or_false, not_or] <;> omega), f8 o (by simp only [List.mem_cons, List.not_mem_nil, or_false, not_or] <;> omega)]; exact r7o o (by omega) (by omega)
                · rw [f9 o (by simp only [List.mem_cons, List.not_mem_nil, or_false, not_or] <;> omega), f8 o (by simp only [List.mem_cons, List.not_mem_nil, or_false, not_or] <;> omega)]; exact r7o o (by omega) (by omega)
                · rw [zV_ne2 hi, j8 _ (by omega)]
                · rw [zV_eq]
                · rw [zV_ne (by omega), j8 _ (by omega)]
            rw [zbn_ok]
            by_cases c3 : zws L4 = some 3
            · rw [if_pos c3]
              have hc7 : zDc b I7 J6 D u := hc.fr2 r7z (fun p hp => by
                rw [r71, r72, r73, if_neg (by omega), if_neg (by omega), if_neg (by omega)]
                exact ⟨rfl, rfl, rfl⟩) (fun i m hi hm => by rw [r7o _ (by omega) (by omega)]) (fun o o1 o2 => r7o o (by omega) (by omega)) (j6 _ (by omega)) (j6 _ (by omega))
              have q5 := cunder_e (sc := sc) (a := a) (w := w) (v := v) hb hD (by omega) hc7 hT s7 c3
              rw [c3] at hwq
              cases hr5 : zun2 D.2.1 T.length L4.tail with
              | error F =>
                rw [hr5] at q5
                obtain ⟨g1, g2, I8, J8, wd8, x1, x2, x3, x4⟩ := q5
                dsimp only at x1
                rw [hI7] at x1
                refine zCA_er hb hD hc (by omega) g1 g2 (wd' := wd8) ?_ x2 (f6.tr ((f7.mono (by intro o9 ho9; simp only [List.mem_cons, List.not_mem_nil, or_false] at ho9 ⊢; omega)).tr (x3.mono (by intro o9 ho9; simp only [List.mem_cons, List.not_mem_nil, or_false] at ho9 ⊢; omega)))) (fun o ho => (x4 o ho).trans (j6 o ho))
                (try dsimp only)
                subst hwq
                rw [ux_Army_readPost]
                simp (disch := first | assumption | omega) only [e0, ↓zoc s1, w2, ↓zoc r1, ↓zoc t1, e3, t5, ↓zoc z1, ↓zoc y1, e6, y5, hok, ↓zoc x1, ↓gI_64, ↓gL_64, ↓pI_64, ↓pL_64, ↓vv_64, ↓gI_65, ↓gL_65, ↓pI_65, ↓pL_65, ↓vv_65, ↓gI_67, ↓gL_67, ↓pI_67, ↓pL_67, ↓vv_67, ↓gI_70, ↓gL_70, ↓pI_70, ↓pL_70, ↓vv_70, ↓gI_73, ↓gL_73, ↓pI_73, ↓pL_73, ↓vv_73, ↓gI_77, ↓gL_77, ↓pI_77, ↓pL_77, ↓vv_77, ↓gI_84, ↓gL_84, ↓pI_84, ↓pL_84, ↓vv_84, ↓gI_90, ↓gL_90, ↓pI_90, ↓pL_90, ↓vv_90, ↓gI_216, ↓gL_216, ↓pI_216, ↓pL_216, ↓vv_216, ↓rd_66, ↓wr_66, ↓ln_66, ↓at_68, ↓pt_68, ↓at_69, ↓pt_69, ↓at_71, ↓pt_71, ↓at_72, ↓pt_72, ↓at_74, ↓pt_74, ↓at_75, ↓pt_75, ↓at_76, ↓pt_76, ↓at_78, ↓pt_78, ↓at_79, ↓pt_79, ↓at_80, ↓pt_80, ↓at_81, ↓pt_81, ↓at_82, ↓pt_82, ↓at_83, ↓pt_83, ↓at_85, ↓pt_85, ↓at_86, ↓pt_86, ↓at_87, ↓pt_87, ↓at_88, ↓pt_88, ↓at_89, ↓pt_89, ↓at_91, ↓pt_91, ↓at_95, ↓pt_95, ↓rd_217, ↓wr_217, ↓ln_217, ↓rd_218, ↓wr_218, ↓ln_218, ↓rd_219, ↓wr_219, ↓ln_219, ↓rd_220, ↓wr_220, ↓ln_220, ↓rd_221, ↓wr_221, ↓ln_221, ↓rd_222, ↓wr_222, ↓ln_222, ↓rd_223, ↓wr_223, ↓ln_223, ↓rd_224, ↓wr_224, ↓ln_224, ↓rd_225, ↓wr_225, ↓ln_225, ↓rd_226, ↓wr_226, ↓ln_226, ↓rd_227, ↓wr_227, ↓ln_227, ↓rd_228, ↓wr_228, ↓ln_228, ↓rd_229, ↓wr_229, ↓ln_229, ↓rd_230, ↓wr_230, ↓ln_230, ↓rd_231, ↓wr_231, ↓ln_231, ↓rd_232, ↓wr_232, ↓ln_232, ↓rd_233, ↓wr_233, ↓ln_233, ↓rd_234, ↓wr_234, ↓ln_234, ↓rd_235, ↓wr_235, ↓ln_235, ↓rd_236, ↓wr_236, ↓ln_236, ↓rd_237, ↓wr_237, ↓ln_237, ↓rd_238, ↓wr_238, ↓ln_238, ↓rd_239, ↓wr_239, ↓ln_239, ↓rd_240, ↓wr_240, ↓ln_240, ↓rd_241, ↓wr_241, ↓ln_241, ↓rd_242, ↓wr_242, ↓ln_242, ↓rd_243, ↓wr_243, ↓ln_243, ↓gR_64_0, ↓gR_64_1, ↓gR_64_2, ↓gR_64_3, ↓gR_64_4, ↓gR_64_5, ↓gR_64_6, ↓gR_64_7, ↓gR_64_8, ↓gR_64_9, ↓gR_64_10, ↓gR_65_0, ↓gR_67_0, ↓gR_67_1, ↓gR_70_0, ↓gR_70_1, ↓gR_73_0, ↓gR_73_1, ↓gR_73_2, ↓gR_77_3, ↓gR_77_4, ↓gR_77_7, ↓gR_77_8, ↓gR_77_9, ↓gR_77_10, ↓gR_84_0, ↓gR_84_1, ↓gR_84_2, ↓gR_84_3, ↓gR_84_4, ↓gR_90_1, ↓gR_216_1, ↓gR_216_4, ↓gR_216_5, ↓gR_216_6, ↓gR_216_9, ↓gR_216_10, ↓gR_216_11, ↓gR_216_12, ↓gR_216_14, ↓gR_216_15, ↓gR_216_16, ↓gR_216_17, ↓gR_216_22, ↓gR_216_23, ↓gR_216_24, ↓gR_216_25, ↓gR_216_27, ↓gR_216_28, ↓gR_216_29, ↓gR_216_31, ↓gR_216_35, ↓gR_216_36, ↓gR_216_37, ↓gR_216_38, ↓gR_216_39, ↓gR_216_43, ↓gR_64_11, ↓gR_64_12, ↓gR_64_13, ↓gR_64_14, ↓gQ_65, ↓gI_A, ↓gL_A, ↓pI_A, ↓pL_A, ↓vv_A, ↓gI_Lw, ↓gL_Lw, ↓pI_Lw, ↓pL_Lw, ↓vv_Lw, ↓gR_A_7, ↓gR_A_8, ↓gR_A_9, ↓gR_A_10, ↓gR_A_11, ↓gR_A_12, ↓gR_A_13, ↓gR_A_14, ↓gR_A_15, ↓gR_A_16, ↓gR_A_17, ↓gR_Lw_0, ↓gR_Lw_1, ↓gR_Lw_2, ↓gR_Lw_3, ↓gR_Lw_4, ↓at_A1, ↓pt_A1, ↓at_A2, ↓pt_A2, ↓at_A3, ↓pt_A3, ↓at_A4, ↓pt_A4, ↓at_A5, ↓pt_A5, ↓at_A6, ↓pt_A6, ↓rd_A7, ↓wr_A7, ↓ln_A7, ↓rd_A8, ↓wr_A8, ↓ln_A8, ↓at_A9, ↓pt_A9, ↓at_A10, ↓pt_A10, ↓at_A12, ↓pt_A12, ↓at_A13, ↓pt_A13, ↓at_A14, ↓pt_A14, ↓at_A15, ↓pt_A15, ↓at_A16, ↓pt_A16, ↓gI_W, ↓gL_W, ↓pI_W, ↓pL_W, ↓vv_W, ↓gR_W_1, ↓gR_W_2, ↓gR_W_3, ↓gR_W_4, ↓at_W1, ↓pt_W1, ↓at_W2, ↓pt_W2, ↓at_W3, ↓pt_W3, ↓at_W4, ↓pt_W4, ↓rdR_92, ↓rdR_93, ↓rdR_94, ↓gI_S, ↓gL_S, ↓pI_S, ↓pL_S, ↓vv_S, ↓gR_S_0, ↓gR_S_1, ↓at_S1, ↓pt_S1, ↓at_S2, ↓pt_S2, ↓gI_N, ↓gL_N, ↓pI_N, ↓pL_N, ↓vv_N, ↓gR_N_0, ↓gR_N_1, ↓gR_N_2, ↓at_N1, ↓pt_N1, ↓at_N2, ↓pt_N2, ↓at_N3, ↓pt_N3, ↓pB_S, ↓pB_S0, ↓pB_S1, ↓pB_770, ↓pB_771, ↓at_6, ↓pt_6, ↓atN, ↓ptN, ↓cS, ↓bS, ↓zol, ↓zrb, ↓zrb0, ↓zrb1, ↓reduceIte, z32_s, z32_n, zb_test, zn_add, zn_mul, zn_addN, zn_sub, zU_ne, zU_eq, zU_at, zV_ne, zV_eq, zV_at, p_le, p_nle, p_lt, p_nlt, p_eq, p_neq, p_eqN, p_leN, p_ltN, p_Nle, p_Nlt, p_Neq, p_zt0, p_zt1, eq_self, Nat.reduceAdd, Nat.reduceMul, Nat.reduceSub, Nat.reduceEqDiff, Nat.reduceLT, Nat.reduceLeDiff, if_true, if_false, Bool.false_eq_true, not_true_eq_false, not_false_eq_true, reduceCtorEq]
              | ok p5 =>
                obtain ⟨L5, y⟩ := p5
                rw [hr5] at q5
                obtain ⟨I8, J8, wd8, x1, x2, x3, x4, x5, x6⟩ := q5
                dsimp only at x1 x2 x5
                have e8 : I8 b 0 = zn (aP D.1) := by rw [x3 b (by simp only [List.mem_cons, List.not_mem_nil, or_false, not_or] <;> omega)]; exact e7
                rw [hI7] at x1
                rw [zbn_ok]
                refine fin I8 J8 wd8 L5 (some y) x2 x3 (fun o ho => (x4 o ho).trans (j6 o ho)) x5 x6 ?_ ?_
                · have l5 : L5.length ≤ L4.tail.length := by rw [(zun2_inv hr5).2.2]; exact ztl
                  have l6 : L4.tail.length ≤ L4.length := ztl
                  omega
                · subst hwq
                  rw [ux_Army_readPost]
                  simp (disch := first | assumption | omega) only [e0, ↓zoc s1, w2, ↓zoc r1, ↓zoc t1, e3, t5, ↓zoc z1, ↓zoc y1, e6, y5, hok, ↓zoc x1, e8, ↓gI_64, ↓gL_64, ↓pI_64, ↓pL_64, ↓vv_64, ↓gI_65, ↓gL_65, ↓pI_65, ↓pL_65, ↓vv_65, ↓gI_67, ↓gL_67, ↓pI_67, ↓pL_67, ↓vv_67, ↓gI_70, ↓gL_70, ↓pI_70, ↓pL_70, ↓vv_70, ↓gI_73, ↓gL_73, ↓pI_73, ↓pL_73, ↓vv_73, ↓gI_77, ↓gL_77, ↓pI_77, ↓pL_77, ↓vv_77, ↓gI_84, ↓gL_84, ↓pI_84, ↓pL_84, ↓vv_84, ↓gI_90, ↓gL_90, ↓pI_90, ↓pL_90, ↓vv_90, ↓gI_216, ↓gL_216, ↓pI_216, ↓pL_216, ↓vv_216, ↓rd_66, ↓wr_66, ↓ln_66, ↓at_68, ↓pt_68, ↓at_69, ↓pt_69, ↓at_71, ↓pt_71, ↓at_72, ↓pt_72, ↓at_74, ↓pt_74, ↓at_75, ↓pt_75, ↓at_76, ↓pt_76, ↓at_78, ↓pt_78, ↓at_79, ↓pt_79, ↓at_80, ↓pt_80, ↓at_81, ↓pt_81, ↓at_82, ↓pt_82, ↓at_83, ↓pt_83, ↓at_85, ↓pt_85, ↓at_86, ↓pt_86, ↓at_87, ↓pt_87, ↓at_88, ↓pt_88, ↓at_89, ↓pt_89, ↓at_91, ↓pt_91, ↓at_95, ↓pt_95, ↓rd_217, ↓wr_217, ↓ln_217, ↓rd_218, ↓wr_218, ↓ln_218, ↓rd_219, ↓wr_219, ↓ln_219, ↓rd_220, ↓wr_220, ↓ln_220, ↓rd_221, ↓wr_221, ↓ln_221, ↓rd_222, ↓wr_222, ↓ln_222, ↓rd_223, ↓wr_223, ↓ln_223, ↓rd_224, ↓wr_224, ↓ln_224, ↓rd_225, ↓wr_225, ↓ln_225, ↓rd_226, ↓wr_226, ↓ln_226, ↓rd_227, ↓wr_227, ↓ln_227, ↓rd_228, ↓wr_228, ↓ln_228, ↓rd_229, ↓wr_229, ↓ln_229, ↓rd_230, ↓wr_230, ↓ln_230, ↓rd_231, ↓wr_231, ↓ln_231, ↓rd_232, ↓wr_232, ↓ln_232, ↓rd_233, ↓wr_233, ↓ln_233, ↓rd_234, ↓wr_234, ↓ln_234, ↓rd_235, ↓wr_235, ↓ln_235, ↓rd_236, ↓wr_236, ↓ln_236, ↓rd_237, ↓wr_237, ↓ln_237, ↓rd_238, ↓wr_238, ↓ln_238, ↓rd_239, ↓wr_239, ↓ln_239, ↓rd_240, ↓wr_240, ↓ln_240, ↓rd_241, ↓wr_241, ↓ln_241, ↓rd_242, ↓wr_242, ↓ln_242, ↓rd_243, ↓wr_243, ↓ln_243, ↓gR_64_0, ↓gR_64_1, ↓gR_64_2, ↓gR_64_3, ↓gR_64_4, ↓gR_64_5, ↓gR_64_6, ↓gR_64_7, ↓gR_64_8, ↓gR_64_9, ↓gR_64_10, ↓gR_65_0, ↓gR_67_0, ↓gR_67_1, ↓gR_70_0, ↓gR_70_1, ↓gR_73_0, ↓gR_73_1, ↓gR_73_2, ↓gR_77_3, ↓gR_77_4, ↓gR_77_7, ↓gR_77_8, ↓gR_77_9, ↓gR_77_10, ↓gR_84_0, ↓gR_84_1, ↓gR_84_2, ↓gR_84_3, ↓gR_84_4, ↓gR_90_1, ↓gR_216_1, ↓gR_216_4, ↓gR_216_5, ↓gR_216_6, ↓gR_216_9, ↓gR_216_10, ↓gR_216_11, ↓gR_216_12, ↓gR_216_14, ↓gR_216_15, ↓gR_216_16, ↓gR_216_17, ↓gR_216_22, ↓gR_216_23, ↓gR_216_24, ↓gR_216_25, ↓gR_216_27, ↓gR_216_28, ↓gR_216_29, ↓gR_216_31, ↓gR_216_35, ↓gR_216_36, ↓gR_216_37, ↓gR_216_38, ↓gR_216_39, ↓gR_216_43, ↓gR_64_11, ↓gR_64_12, ↓gR_64_13, ↓gR_64_14, ↓gQ_65, ↓gI_A, ↓gL_A, ↓pI_A, ↓pL_A, ↓vv_A, ↓gI_Lw, ↓gL_Lw, ↓pI_Lw, ↓pL_Lw, ↓vv_Lw, ↓gR_A_7, ↓gR_A_8, ↓gR_A_9, ↓gR_A_10, ↓gR_A_11, ↓gR_A_12, ↓gR_A_13, ↓gR_A_14, ↓gR_A_15, ↓gR_A_16, ↓gR_A_17, ↓gR_Lw_0, ↓gR_Lw_1, ↓gR_Lw_2, ↓gR_Lw_3, ↓gR_Lw_4, ↓at_A1, ↓pt_A1, ↓at_A2, ↓pt_A2, ↓at_A3, ↓pt_A3, ↓at_A4, ↓pt_A4, ↓at_A5, ↓pt_A5, ↓at_A6, ↓pt_A6, ↓rd_A7, ↓wr_A7, ↓ln_A7, ↓rd_A8, ↓wr_A8, ↓ln_A8, ↓at_A9, ↓pt_A9, ↓at_A10, ↓pt_A10, ↓at_A12, ↓pt_A12, ↓at_A13, ↓pt_A13, ↓at_A14, ↓pt_A14, ↓at_A15, ↓pt_A15, ↓at_A16, ↓pt_A16, ↓gI_W, ↓gL_W, ↓pI_W, ↓pL_W, ↓vv_W, ↓gR_W_1, ↓gR_W_2, ↓gR_W_3, ↓gR_W_4, ↓at_W1, ↓pt_W1, ↓at_W2, ↓pt_W2, ↓at_W3, ↓pt_W3, ↓at_W4, ↓pt_W4, ↓rdR_92, ↓rdR_93, ↓rdR_94, ↓gI_S, ↓gL_S, ↓pI_S, ↓pL_S, ↓vv_S, ↓gR_S_0, ↓gR_S_1, ↓at_S1, ↓pt_S1, ↓at_S2, ↓pt_S2, ↓gI_N, ↓gL_N, ↓pI_N, ↓pL_N, ↓vv_N, ↓gR_N_0, ↓gR_N_1, ↓gR_N_2, ↓at_N1, ↓pt_N1, ↓at_N2, ↓pt_N2, ↓at_N3, ↓pt_N3, ↓pB_S, ↓pB_S0, ↓pB_S1, ↓pB_770, ↓pB_771, ↓at_6, ↓pt_6, ↓atN, ↓ptN, ↓cS, ↓bS, ↓zol, ↓zrb, ↓zrb0, ↓zrb1, ↓reduceIte, z32_s, z32_n, zb_test, zn_add, zn_mul, zn_addN, zn_sub, zU_ne, zU_eq, zU_at, zV_ne, zV_eq, zV_at, p_le, p_nle, p_lt, p_nlt, p_eq, p_neq, p_eqN, p_leN, p_ltN, p_Nle, p_Nlt, p_Neq, p_zt0, p_zt1, eq_self, Nat.reduceAdd, Nat.reduceMul, Nat.reduceSub, Nat.reduceEqDiff, Nat.reduceLT, Nat.reduceLeDiff, if_true, if_false, Bool.false_eq_true, not_true_eq_false, not_false_eq_true, reduceCtorEq]
            · rw [if_neg c3]
              have c3' : ¬ wd6 = some 3 := fun q => c3 (by rw [← hwq]; exact q)
              refine fin I7 J6 wd6 L4 none s7 (zFr.refl _ _) j6 (by rw [r73, if_pos rfl]; rfl) (fun _ _ => rfl) lM ?_
              rw [ux_Army_readPost, hI7]
              simp (disch := first | assumption | omega) only [e0, ↓zoc s1, w2, ↓zoc r1, ↓zoc t1, e3, t5, ↓zoc z1, ↓zoc y1, e6, y5, hok, c3', ↓gI_64, ↓gL_64, ↓pI_64, ↓pL_64, ↓vv_64, ↓gI_65, ↓gL_65, ↓pI_65, ↓pL_65, ↓vv_65, ↓gI_67, ↓gL_67, ↓pI_67, ↓pL_67, ↓vv_67, ↓gI_70, ↓gL_70, ↓pI_70, ↓pL_70, ↓vv_70, ↓gI_73, ↓gL_73, ↓pI_73, ↓pL_73, ↓vv_73, ↓gI_77, ↓gL_77, ↓pI_77, ↓pL_77, ↓vv_77, ↓gI_84, ↓gL_84, ↓pI_84, ↓pL_84, ↓vv_84, ↓gI_90, ↓gL_90, ↓pI_90, ↓pL_90, ↓vv_90, ↓gI_216, ↓gL_216, ↓pI_216, ↓pL_216, ↓vv_216, ↓rd_66, ↓wr_66, ↓ln_66, ↓at_68, ↓pt_68, ↓at_69, ↓pt_69, ↓at_71, ↓pt_71, ↓at_72, ↓pt_72, ↓at_74, ↓pt_74, ↓at_75, ↓pt_75, ↓at_76, ↓pt_76, ↓at_78, ↓pt_78, ↓at_79, ↓pt_79, ↓at_80, ↓pt_80, ↓at_81, ↓pt_81, ↓at_82, ↓pt_82, ↓at_83, ↓pt_83, ↓at_85, ↓pt_85, ↓at_86, ↓pt_86, ↓at_87, ↓pt_87, ↓at_88, ↓pt_88, ↓at_89, ↓pt_89, ↓at_91, ↓pt_91, ↓at_95, ↓pt_95, ↓rd_217, ↓wr_217, ↓ln_217, ↓rd_218, ↓wr_218, ↓ln_218, ↓rd_219, ↓wr_219, ↓ln_219, ↓rd_220, ↓wr_220, ↓ln_220, ↓rd_221, ↓wr_221, ↓ln_221, ↓rd_222, ↓wr_222, ↓ln_222, ↓rd_223, ↓wr_223, ↓ln_223, ↓rd_224, ↓wr_224, ↓ln_224, ↓rd_225, ↓wr_225, ↓ln_225, ↓rd_226, ↓wr_226, ↓ln_226, ↓rd_227, ↓wr_227, ↓ln_227, ↓rd_228, ↓wr_228, ↓ln_228, ↓rd_229, ↓wr_229, ↓ln_229, ↓rd_230, ↓wr_230, ↓ln_230, ↓rd_231, ↓wr_231, ↓ln_231, ↓rd_232, ↓wr_232, ↓ln_232, ↓rd_233, ↓wr_233, ↓ln_233, ↓rd_234, ↓wr_234, ↓ln_234, ↓rd_235, ↓wr_235, ↓ln_235, ↓rd_236, ↓wr_236, ↓ln_236, ↓rd_237, ↓wr_237, ↓ln_237, ↓rd_238, ↓wr_238, ↓ln_238, ↓rd_239, ↓wr_239, ↓ln_239, ↓rd_240, ↓wr_240, ↓ln_240, ↓rd_241, ↓wr_241, ↓ln_241, ↓rd_242, ↓wr_242, ↓ln_242, ↓rd_243, ↓wr_243, ↓ln_243, ↓gR_64_0, ↓gR_64_1, ↓gR_64_2, ↓gR_64_3, ↓gR_64_4, ↓gR_64_5, ↓gR_64_6, ↓gR_64_7, ↓gR_64_8, ↓gR_64_9, ↓gR_64_10, ↓gR_65_0, ↓gR_67_0, ↓gR_67_1, ↓gR_70_0, ↓gR_70_1, ↓gR_73_0, ↓gR_73_1, ↓gR_73_2, ↓gR_77_3, ↓gR_77_4, ↓gR_77_7, ↓gR_77_8, ↓gR_77_9, ↓gR_77_10, ↓gR_84_0, ↓gR_84_1, ↓gR_84_2, ↓gR_84_3, ↓gR_84_4, ↓gR_90_1, ↓gR_216_1, ↓gR_216_4, ↓gR_216_5, ↓gR_216_6, ↓gR_216_9, ↓gR_216_10, ↓gR_216_11, ↓gR_216_12, ↓gR_216_14, ↓gR_216_15, ↓gR_216_16, ↓gR_216_17, ↓gR_216_22, ↓gR_216_23, ↓gR_216_24, ↓gR_216_25, ↓gR_216_27, ↓gR_216_28, ↓gR_216_29, ↓gR_216_31, ↓gR_216_35, ↓gR_216_36, ↓gR_216_37, ↓gR_216_38, ↓gR_216_39, ↓gR_216_43, ↓gR_64_11, ↓gR_64_12, ↓gR_64_13, ↓gR_64_14, ↓gQ_65, ↓gI_A, ↓gL_A, ↓pI_A, ↓pL_A, ↓vv_A, ↓gI_Lw, ↓gL_Lw, ↓pI_Lw, ↓pL_Lw, ↓vv_Lw, ↓gR_A_7, ↓gR_A_8, ↓gR_A_9, ↓gR_A_10, ↓gR_A_11, ↓gR_A_12, ↓gR_A_13, ↓gR_A_14, ↓gR_A_15, ↓gR_A_16, ↓gR_A_17, ↓gR_Lw_0, ↓gR_Lw_1, ↓gR_Lw_2, ↓gR_Lw_3, ↓gR_Lw_4, ↓at_A1, ↓pt_A1, ↓at_A2, ↓pt_A2, ↓at_A3, ↓pt_A3, ↓at_A4, ↓pt_A4, ↓at_A5, ↓pt_A5, ↓at_A6, ↓pt_A6, ↓rd_A7, ↓wr_A7, ↓ln_A7, ↓rd_A8, ↓wr_A8, ↓ln_A8, ↓at_A9, ↓pt_A9, ↓at_A10, ↓pt_A10, ↓at_A12, ↓pt_A12, ↓at_A13, ↓pt_A13, ↓at_A14, ↓pt_A14, ↓at_A15, ↓pt_A15, ↓at_A16, ↓pt_A16, ↓gI_W, ↓gL_W, ↓pI_W, ↓pL_W, ↓vv_W, ↓gR_W_1, ↓gR_W_2, ↓gR_W_3, ↓gR_W_4, ↓at_W1, ↓pt_W1, ↓at_W2, ↓pt_W2, ↓at_W3, ↓pt_W3, ↓at_W4, ↓pt_W4, ↓rdR_92, ↓rdR_93, ↓rdR_94, ↓gI_S, ↓gL_S, ↓pI_S, ↓pL_S, ↓vv_S, ↓gR_S_0, ↓gR_S_1, ↓at_S1, ↓pt_S1, ↓at_S2, ↓pt_S2, ↓gI_N, ↓gL_N, ↓pI_N, ↓pL_N, ↓vv_N, ↓gR_N_0, ↓gR_N_1, ↓gR_N_2, ↓at_N1, ↓pt_N1, ↓at_N2, ↓pt_N2, ↓at_N3, ↓pt_N3, ↓pB_S, ↓pB_S0, ↓pB_S1, ↓pB_770, ↓pB_771, ↓at_6, ↓pt_6, ↓atN, ↓ptN, ↓cS, ↓bS, ↓zol, ↓zrb, ↓zrb0, ↓zrb1, ↓reduceIte, z32_s, z32_n, zb_test, zn_add, zn_mul, zn_addN, zn_sub, zU_ne, zU_eq, zU_at, zV_ne, zV_eq, zV_at, p_le, p_nle, p_lt, p_nlt, p_eq, p_neq, p_eqN, p_leN, p_ltN, p_Nle, p_Nlt, p_Neq, p_zt0, p_zt1, eq_self, Nat.reduceAdd, Nat.reduceMul, Nat.reduceSub, Nat.reduceEqDiff, Nat.reduceLT, Nat.reduceLeDiff, if_true, if_false, Bool.false_eq_true, not_true_eq_false, not_false_eq_true, reduceCtorEq]
end ZO
