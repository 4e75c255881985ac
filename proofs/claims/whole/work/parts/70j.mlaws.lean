/-! laws as told: the reference reads them -/
def zFm (I I' : zII) : Prop := zFr [216, 223, 224] I I' ∧ (∀ j, j ≠ 7 → j ≠ 8 → j ≠ 13 → I' 216 j = I 216 j) ∧ ∀ i, i < 1100 → I' 223 i = I 223 i ∧ I' 224 i = I 224 i
theorem zFm.refl (I : zII) : zFm I I := ⟨zFr.refl _ _, fun _ _ _ _ => rfl, fun _ _ => ⟨rfl, rfl⟩⟩
theorem zFm.tr {I I1 I2 : zII} (h : zFm I I1) (h2 : zFm I1 I2) : zFm I I2 := ⟨h.1.tr h2.1, fun j a b c => (h2.2.1 j a b c).trans (h.2.1 j a b c), fun i hi => ⟨(h2.2.2 i hi).1.trans (h.2.2 i hi).1, (h2.2.2 i hi).2.trans (h.2.2 i hi).2⟩⟩
theorem zFm.u7 {I : zII} {x : Int32} : zFm I (zU I 216 7 x) := ⟨(zFr.refl _ I).u (by simp only [List.mem_cons, List.not_mem_nil, or_false, true_or, or_true] <;> omega), fun j a _ _ => zU_ne2 a, fun i _ => by rw [zU_ne (by decide), zU_ne (by decide)]; exact ⟨rfl, rfl⟩⟩
theorem zFm.u8 {I : zII} {x : Int32} : zFm I (zU I 216 8 x) := ⟨(zFr.refl _ I).u (by simp only [List.mem_cons, List.not_mem_nil, or_false, true_or, or_true] <;> omega), fun j _ a _ => zU_ne2 a, fun i _ => by rw [zU_ne (by decide), zU_ne (by decide)]; exact ⟨rfl, rfl⟩⟩
def zcmd (q : Bool) (I : zII) (u : Nat) (c : zCo) : Prop := ∀ i x, c[i]? = some x → I 223 (1100 + u + i) = zn x.1 ∧ (x.1 = 1 → I 224 (1100 + u + i) = zn x.2) ∧ (x.1 = 2 → I 224 (1100 + u + i) = zn (x.2 + if q then 4 else 0))
def zML (r : zRr) (N : Nat) (K : List zTo) (q : Bool) (u : Nat) (f : zH → Option (Unit × zH)) (I : zII) (J : zJJ) (k : Nat) (res : zPR) : Prop := match res with
  | .ok p => ∃ I' k', f (zG I J r) = some ((), zG I' J r) ∧ zMs I' J N K k' 0 ∧ p.1 = K.drop k' ∧ k ≤ k' ∧ zFm I I' ∧ I' 216 13 = zn (u + p.2.length) ∧ zcmd q I' u p.2 ∧ ∀ i, i < 1100 + u → I' 223 i = I 223 i ∧ I' 224 i = I 224 i
  | .error F => 1 ≤ F ∧ ∃ I' k' u', f (zG I J r) = some ((), zG I' J r) ∧ zMs I' J N K k' F ∧ k ≤ k' ∧ zFm I I' ∧ I' 216 13 = zn u' ∧ u' + k ≤ u + k'
def zPq2 (N : Nat) (K : List zTo) (q : Bool) (u : Nat) (I : zII) (J : zJJ) (k : Nat) : Prop := zMs I J N K k 0 ∧ I 216 13 = zn u ∧ u + K.length ≤ 999 + k ∧ I 216 21 = zn (if q then 112 else 15)
def zRe (r : zRr) (N : Nat) (K : List zTo) (q : Bool) (f : zH → Option (Unit × zH)) (sub : List zTo → zPR) : Prop := ∀ u I J k, zPq2 N K q u I J k → zML r N K q u f I J k (sub (K.drop k))
theorem zcm_app {q : Bool} {I : zII} {u : Nat} {c c' : zCo} (h1 : zcmd q I u c) (h2 : zcmd q I (u + c.length) c') : zcmd q I u (c ++ c') := by
  intro i x hx
  by_cases z : i < c.length
  · rw [List.getElem?_append_left z] at hx
    exact h1 i x hx
  · rw [List.getElem?_append_right (by omega)] at hx
    have := h2 _ x hx
    rw [show 1100 + (u + c.length) + (i - c.length) = 1100 + u + i from by omega] at this
    exact this
theorem zcm_fr {q : Bool} {I I' : zII} {u : Nat} {c : zCo} (h : zcmd q I u c) (e : ∀ i, i < 1100 + (u + c.length) → I' 223 i = I 223 i ∧ I' 224 i = I 224 i) : zcmd q I' u c := by
  intro i x hx
  have hi := (List.getElem?_eq_some_iff.mp hx).1
  rw [(e _ (by omega)).1, (e _ (by omega)).2]
  exact h i x hx
section ZO
variable {sc : zX} {r : zRr} {N : Nat} {K : List zTo} {q : Bool}
theorem emit_e {I : zII} {J : zJJ} {u : Nat} (h : I 216 13 = zn u) (hu : u < 1100) (x y : Int32) : zm_emit sc 216 x y (zG I J r) = some ((), zG (zU (zU (zU I 223 (1100 + u) x) 224 (1100 + u) y) 216 13 (zn (u + 1))) J r) := by
  rw [um_emit]
  simp (disch := first | assumption | omega) only [h, ↓gI_64, ↓gL_64, ↓pI_64, ↓pL_64, ↓vv_64, ↓gI_65, ↓gL_65, ↓pI_65, ↓pL_65, ↓vv_65, ↓gI_67, ↓gL_67, ↓pI_67, ↓pL_67, ↓vv_67, ↓gI_70, ↓gL_70, ↓pI_70, ↓pL_70, ↓vv_70, ↓gI_73, ↓gL_73, ↓pI_73, ↓pL_73, ↓vv_73, ↓gI_77, ↓gL_77, ↓pI_77, ↓pL_77, ↓vv_77, ↓gI_84, ↓gL_84, ↓pI_84, ↓pL_84, ↓vv_84, ↓gI_90, ↓gL_90, ↓pI_90, ↓pL_90, ↓vv_90, ↓gI_216, ↓gL_216, ↓pI_216, ↓pL_216, ↓vv_216, ↓rd_66, ↓wr_66, ↓ln_66, ↓at_68, ↓pt_68, ↓at_69, ↓pt_69, ↓at_71, ↓pt_71, ↓at_72, ↓pt_72, ↓at_74, ↓pt_74, ↓at_75, ↓pt_75, ↓at_76, ↓pt_76, ↓at_78, ↓pt_78, ↓at_79, ↓pt_79, ↓at_80, ↓pt_80, ↓at_81, ↓pt_81, ↓at_82, ↓pt_82, ↓at_83, ↓pt_83, ↓at_85, ↓pt_85, ↓at_86, ↓pt_86, ↓at_87, ↓pt_87, ↓at_88, ↓pt_88, ↓at_89, ↓pt_89, ↓at_91, ↓pt_91, ↓at_95, ↓pt_95, ↓rd_217, ↓wr_217, ↓ln_217, ↓rd_218, ↓wr_218, ↓ln_218, ↓rd_219, ↓wr_219, ↓ln_219, ↓rd_220, ↓wr_220, ↓ln_220, ↓rd_221, ↓wr_221, ↓ln_221, ↓rd_222, ↓wr_222, ↓ln_222, ↓rd_223, ↓wr_223, ↓ln_223, ↓rd_224, ↓wr_224, ↓ln_224, ↓rd_225, ↓wr_225, ↓ln_225, ↓rd_226, ↓wr_226, ↓ln_226, ↓rd_227, ↓wr_227, ↓ln_227, ↓rd_228, ↓wr_228, ↓ln_228, ↓rd_229, ↓wr_229, ↓ln_229, ↓rd_230, ↓wr_230, ↓ln_230, ↓rd_231, ↓wr_231, ↓ln_231, ↓rd_232, ↓wr_232, ↓ln_232, ↓rd_233, ↓wr_233, ↓ln_233, ↓rd_234, ↓wr_234, ↓ln_234, ↓rd_235, ↓wr_235, ↓ln_235, ↓rd_236, ↓wr_236, ↓ln_236, ↓rd_237, ↓wr_237, ↓ln_237, ↓rd_238, ↓wr_238, ↓ln_238, ↓rd_239, ↓wr_239, ↓ln_239, ↓rd_240, ↓wr_240, ↓ln_240, ↓rd_241, ↓wr_241, ↓ln_241, ↓rd_242, ↓wr_242, ↓ln_242, ↓rd_243, ↓wr_243, ↓ln_243, ↓gR_64_0, ↓gR_64_1, ↓gR_64_2, ↓gR_64_3, ↓gR_64_4, ↓gR_64_5, ↓gR_64_6, ↓gR_64_7, ↓gR_64_8, ↓gR_64_9, ↓gR_64_10, ↓gR_65_0, ↓gR_67_0, ↓gR_67_1, ↓gR_70_0, ↓gR_70_1, ↓gR_73_0, ↓gR_73_1, ↓gR_73_2, ↓gR_77_3, ↓gR_77_4, ↓gR_77_7, ↓gR_77_8, ↓gR_77_9, ↓gR_77_10, ↓gR_84_0, ↓gR_84_1, ↓gR_84_2, ↓gR_84_3, ↓gR_84_4, ↓gR_90_1, ↓gR_216_1, ↓gR_216_4, ↓gR_216_5, ↓gR_216_6, ↓gR_216_9, ↓gR_216_10, ↓gR_216_11, ↓gR_216_12, ↓gR_216_14, ↓gR_216_15, ↓gR_216_16, ↓gR_216_17, ↓gR_216_22, ↓gR_216_23, ↓gR_216_24, ↓gR_216_25, ↓gR_216_27, ↓gR_216_28, ↓gR_216_29, ↓gR_216_31, ↓gR_216_35, ↓gR_216_36, ↓gR_216_37, ↓gR_216_38, ↓gR_216_39, ↓gR_216_43, ↓gR_64_11, ↓gR_64_12, ↓gR_64_13, ↓gR_64_14, ↓gQ_65, ↓gI_A, ↓gL_A, ↓pI_A, ↓pL_A, ↓vv_A, ↓gI_Lw, ↓gL_Lw, ↓pI_Lw, ↓pL_Lw, ↓vv_Lw, ↓gR_A_7, ↓gR_A_8, ↓gR_A_9, ↓gR_A_10, ↓gR_A_11, ↓gR_A_12, ↓gR_A_13, ↓gR_A_14, ↓gR_A_15, ↓gR_A_16, ↓gR_A_17, ↓gR_Lw_0, ↓gR_Lw_1, ↓gR_Lw_2, ↓gR_Lw_3, ↓gR_Lw_4, ↓at_A1, ↓pt_A1, ↓at_A2, ↓pt_A2, ↓at_A3, ↓pt_A3, ↓at_A4, ↓pt_A4, ↓at_A5, ↓pt_A5, ↓at_A6, ↓pt_A6, ↓rd_A7, ↓wr_A7, ↓ln_A7, ↓rd_A8, ↓wr_A8, ↓ln_A8, ↓at_A9, ↓pt_A9, ↓at_A10, ↓pt_A10, ↓at_A12, ↓pt_A12, ↓at_A13, ↓pt_A13, ↓at_A14, ↓pt_A14, ↓at_A15, ↓pt_A15, ↓at_A16, ↓pt_A16, ↓gI_W, ↓gL_W, ↓pI_W, ↓pL_W, ↓vv_W, ↓gR_W_1, ↓gR_W_2, ↓gR_W_3, ↓gR_W_4, ↓at_W1, ↓pt_W1, ↓at_W2, ↓pt_W2, ↓at_W3, ↓pt_W3, ↓at_W4, ↓pt_W4, ↓rdR_92, ↓rdR_93, ↓rdR_94, ↓gI_S, ↓gL_S, ↓pI_S, ↓pL_S, ↓vv_S, ↓gR_S_0, ↓gR_S_1, ↓at_S1, ↓pt_S1, ↓at_S2, ↓pt_S2, ↓gI_N, ↓gL_N, ↓pI_N, ↓pL_N, ↓vv_N, ↓gR_N_0, ↓gR_N_1, ↓gR_N_2, ↓at_N1, ↓pt_N1, ↓at_N2, ↓pt_N2, ↓at_N3, ↓pt_N3, ↓pB_S, ↓pB_S0, ↓pB_S1, ↓pB_770, ↓pB_771, ↓at_6, ↓pt_6, ↓atN, ↓ptN, ↓cS, ↓bS, ↓zol, ↓zrb, ↓zrb0, ↓zrb1, ↓reduceIte, z32_s, z32_n, zb_test, zn_add, zn_mul, zn_addN, zn_sub, zU_ne, zU_eq, zU_at, zV_ne, zV_eq, zV_at, p_le, p_nle, p_lt, p_nlt, p_eq, p_neq, p_eqN, p_leN, p_ltN, p_Nle, p_Nlt, p_Neq, p_zt0, p_zt1, eq_self, Nat.reduceAdd, Nat.reduceMul, Nat.reduceSub, Nat.reduceEqDiff, Nat.reduceLT, Nat.reduceLeDiff, if_true, if_false, Bool.false_eq_true, not_true_eq_false, not_false_eq_true, reduceCtorEq]
theorem emit_m {I : zII} {u : Nat} {x y : Int32} {I' : zII} (e : I' = zU (zU (zU I 223 (1100 + u) x) 224 (1100 + u) y) 216 13 (zn (u + 1))) : zFm I I' ∧ I' 216 13 = zn (u + 1) ∧ (∀ i, i < 1100 + u → I' 223 i = I 223 i ∧ I' 224 i = I 224 i) ∧ I' 223 (1100 + u) = x ∧ I' 224 (1100 + u) = y := by
  subst e
  refine ⟨⟨(((zFr.refl _ I).u (by simp only [List.mem_cons, List.not_mem_nil, or_false, true_or, or_true] <;> omega)).u (by simp only [List.mem_cons, List.not_mem_nil, or_false, true_or, or_true] <;> omega)).u (by simp only [List.mem_cons, List.not_mem_nil, or_false, true_or, or_true] <;> omega), fun j _ _ a => ?_, fun i hi => ?_⟩, zU_eq, fun i hi => ?_, ?_, ?_⟩
  · rw [zU_ne2 a, zU_ne (by decide), zU_ne (by decide)]
  · rw [zU_ne (by decide), zU_ne (by decide), zU_ne2 (by omega), zU_ne (by decide), zU_ne2 (by omega), zU_ne (by decide)]; exact ⟨rfl, rfl⟩
  · rw [zU_ne (by decide), zU_ne (by decide), zU_ne2 (by omega), zU_ne (by decide), zU_ne2 (by omega), zU_ne (by decide)]; exact ⟨rfl, rfl⟩
  · rw [zU_ne (by decide), zU_ne (by decide), zU_eq]
  · rw [zU_ne (by decide), zU_eq]
theorem zMs.em {I I' : zII} {J : zJJ} {k F u : Nat} {x y : Int32} (h : zMs I J N K k F) (e : I' = zU (zU (zU I 223 (1100 + u) x) 224 (1100 + u) y) 216 13 (zn (u + 1))) : zMs I' J N K k F := by
  subst e
  exact h.fr (by rw [zU_ne (by decide), zU_ne (by decide), zU_ne (by decide)]) (by rw [zU_ne (by decide), zU_ne (by decide), zU_ne (by decide)]) (by rw [zU_ne2 (by decide), zU_ne (by decide), zU_ne (by decide)]) (by rw [zU_ne2 (by decide), zU_ne (by decide), zU_ne (by decide)]) rfl rfl
theorem zML_eq {u : Nat} {f g : zH → Option (Unit × zH)} {I : zII} {J : zJJ} {k : Nat} {res : zPR} (h : zML r N K q u g I J k res) (e : f (zG I J r) = g (zG I J r)) : zML r N K q u f I J k res := by
  cases res with
  | error F =>
    obtain ⟨f1, I', k', u', h1, h2⟩ := h
    exact ⟨f1, I', k', u', e.trans h1, h2⟩
  | ok p =>
    obtain ⟨I', k', h1, h2⟩ := h
    exact ⟨I', k', e.trans h1, h2⟩
/-- one read, a code behind it -/
theorem zML_add {u : Nat} {f : zH → Option (Unit × zH)} {I : zII} {J : zJJ} {k : Nat} {x : zPR} (o : Nat) (ho : 3 ≤ o) (h : zML r N K q u f I J k x) (hu : u + K.length ≤ 999 + k) (hx : ∀ L c, x = .ok (L, c) → u + c.length < 1000) : zML r N K q (u) (fun h => zo_v h 216 10 (f h) (fun _ h2 => zm_emit sc 216 (zn o) (zn 0) h2)) I J k (match x with | .error F => .error F | .ok p => .ok (p.1, p.2 ++ [(o, 0)])) ∨ ∃ F, x = .error F := by
  cases x with
  | error F => exact Or.inr ⟨F, rfl⟩
  | ok p =>
    refine Or.inl ?_
    obtain ⟨L1, c1⟩ := p
    obtain ⟨I2, k2, r1, r2, r3, r4, r5, r6, r7, r8⟩ := h
    dsimp only at r3 r6 r7
    have hlt := hx L1 c1 rfl
    have ha := emit_e (sc := sc) (J := J) (r := r) r6 (by omega) (zn o) (zn 0)
    obtain ⟨I3, hI3⟩ : ∃ I3, I3 = zU (zU (zU I2 223 (1100 + (u + c1.length)) (zn o)) 224 (1100 + (u + c1.length)) (zn 0)) 216 13 (zn (u + c1.length + 1)) := ⟨_, rfl⟩
    rw [← hI3] at ha
    obtain ⟨m1, m2, m3, m4, m5⟩ := emit_m hI3
    refine ⟨I3, k2, ?_, r2.em hI3, r3, r4, r5.tr m1, ?_, ?_, fun i hi => ?_⟩
    · (try dsimp only)
      rw [zov rfl, zoc r1]
      exact ha
    · show I3 216 13 = zn (u + (c1 ++ [(o, 0)]).length)
      rw [m2, List.length_append]; rfl
    · refine zcm_app (zcm_fr r7 m3) (fun i y hy => ?_)
      have hi := (List.getElem?_eq_some_iff.mp hy).1
      rw [List.length_singleton] at hi
      have hi0 : i = 0 := by omega
      subst hi0
      have hx2 : (o, 0) = y := Option.some.inj hy
      subst hx2
      refine ⟨m4, fun z => absurd z (by show ¬ o = 1; omega), fun z => absurd z (by show ¬ o = 2; omega)⟩
    · exact ⟨((m3 i (by omega)).1).trans (r8 i hi).1, ((m3 i (by omega)).2).trans (r8 i hi).2⟩
/-- a chain of the same -/
theorem mchain {op : List zTo → Option Nat} (ho : op = zop6 ∨ op = zop45 ∨ op = zop9 ∨ op = zop78) {lp : Nat → zH → Option (Unit × zH)} {rc : zH → Option (Unit × zH)} {sub : List zTo → zPR} (hm : zsmm sub) (hs : zRe r N K q rc sub) (hA : ∀ n I J k F, 1 ≤ F → zMs I J N K k F → lp (n + 1) (zG I J r) = some ((), zG I J r)) (hB : ∀ n I J k, zMs I J N K k 0 → op (K.drop k) = none → lp (n + 1) (zG I J r) = some ((), zG I J r)) (hC : ∀ n I J k o, zMs I J N K k 0 → op (K.drop k) = some o → lp (n + 1) (zG I J r) = zo_v (zG (zU I 216 7 (zn (k + 1))) J r) 216 10 (rc (zG (zU I 216 7 (zn (k + 1))) J r)) (fun _ h2 => zo_v h2 216 10 (zm_emit sc 216 (zn o) (zn 0) h2) (fun _ h3 => lp n h3))) : ∀ f u I J k fu, K.length ≤ k + f → f + 1 < fu → zPq2 N K q u I J k → zML r N K q u (fun h => lp fu h) I J k (zchn op sub f (K.drop k)) := by
  intro f
  induction f with
  | zero =>
    intro u I J k fu hL hfu hp
    obtain ⟨fu, rfl⟩ : ∃ m, fu = m + 1 := ⟨fu - 1, by omega⟩
    have hn : K.drop k = [] := List.drop_eq_nil_iff.mpr (by omega)
    have eo : op (K.drop k) = none := by
      cases hz : op (K.drop k) with
      | none => rfl
      | some o =>
        obtain ⟨t, M, z⟩ := zop_c ho hz
        rw [hn] at z; cases z
    exact ⟨I, k, hB fu I J k hp.1 eo, hp.1, rfl, Nat.le_refl _, zFm.refl _, hp.2.1, (fun i x hx => by cases hx), fun _ _ => ⟨rfl, rfl⟩⟩
  | succ f ih =>
    intro u I J k fu hL hfu hp
    obtain ⟨fu, rfl⟩ : ∃ m, fu = m + 1 := ⟨fu - 1, by omega⟩
    show zML r N K q u _ I J k (match op (K.drop k) with | none => (.ok (K.drop k, []) : zPR) | some o => zbd (sub (K.drop k).tail) (fun L' c => zbd (zchn op sub f L') (fun L'' c' => .ok (L'', c ++ [(o, 0)] ++ c'))))
    cases c0 : op (K.drop k) with
    | none => exact ⟨I, k, hB fu I J k hp.1 c0, hp.1, rfl, Nat.le_refl _, zFm.refl _, hp.2.1, (fun i x hx => by cases hx), fun _ _ => ⟨rfl, rfl⟩⟩
    | some o =>
      have hCo := hC fu I J k o hp.1 c0
      obtain ⟨t, M, hM⟩ := zop_c ho c0
      have hk : k < K.length := by
        by_cases z : k < K.length
        · exact z
        · rw [List.drop_eq_nil_iff.mpr (by omega)] at hM; cases hM
      have ho10 := zop_o ho c0
      dsimp only
      rw [List.tail_drop]
      have hp1 : zPq2 N K q u (zU I 216 7 (zn (k + 1))) J (k + 1) := ⟨hp.1.at7 (k + 1) hk, by rw [zU_ne2 (by decide)]; exact hp.2.1, by have := hp.2.2.1; omega, by rw [zU_ne2 (by decide)]; exact hp.2.2.2⟩
      have hq := hs u _ J (k + 1) hp1
      have hlen := hp.2.2.1
      rw [zov rfl] at hCo
      cases hr : sub (K.drop (k + 1)) with
      | error F =>
        rw [hr] at hq
        obtain ⟨f1, I2, k2, u2, r1, r2, r3, r4, r5, r6⟩ := hq
        have hk2 := r2.2.1
        have ha := emit_e (sc := sc) (J := J) (r := r) r5 (by omega) (zn o) (zn 0)
        obtain ⟨I3, hI3⟩ : ∃ I3, I3 = zU (zU (zU I2 223 (1100 + u2) (zn o)) 224 (1100 + u2) (zn 0)) 216 13 (zn (u2 + 1)) := ⟨_, rfl⟩
        rw [← hI3] at ha
        obtain ⟨m1, m2, _⟩ := emit_m hI3
        refine ⟨f1, I3, k2, u2 + 1, ?_, r2.em hI3, by omega, (zFm.u7.tr r4).tr m1, m2, by omega⟩
        obtain ⟨fu, rfl⟩ : ∃ m, fu = m + 1 := ⟨fu - 1, by omega⟩
        (try dsimp only)
        rw [hCo, zoc r1, zov rfl, zoc ha]
        exact hA _ _ _ k2 F f1 (r2.em hI3)
      | ok p =>
        rw [hr] at hq
        obtain ⟨L1, c1⟩ := p
        have hsm := hm _ L1 c1 hr
        obtain ⟨I2, k2, r1, r2, r3, r4, r5, r6, r7, r8⟩ := hq
        dsimp only at r3 r6 r7
        have hk2 := r2.2.1
        rw [r3, List.length_drop, List.length_drop] at hsm
        have ha := emit_e (sc := sc) (J := J) (r := r) r6 (by omega) (zn o) (zn 0)
        obtain ⟨I3, hI3⟩ : ∃ I3, I3 = zU (zU (zU I2 223 (1100 + (u + c1.length)) (zn o)) 224 (1100 + (u + c1.length)) (zn 0)) 216 13 (zn (u + c1.length + 1)) := ⟨_, rfl⟩
        rw [← hI3] at ha
        obtain ⟨m1, m2, m3, m4, m5⟩ := emit_m hI3
        have hfr : zFm I I3 := (zFm.u7.tr r5).tr m1
        have hp3 : zPq2 N K q (u + c1.length + 1) I3 J k2 := ⟨r2.em hI3, m2, by omega, by rw [hfr.2.1 21 (by decide) (by decide) (by decide)]; exact hp.2.2.2⟩
        have hq2 := ih (u + c1.length + 1) I3 J k2 fu (by omega) (by omega) hp3
        have hgo : lp (fu + 1) (zG I J r) = lp fu (zG I3 J r) := by
          rw [hCo, zoc r1, zov rfl, zoc ha]
        rw [r3]
        show zML r N K q u _ I J k (zbd (zchn op sub f (K.drop k2)) (fun L'' c' => .ok (L'', c1 ++ [(o, 0)] ++ c')))
        cases hr2 : zchn op sub f (K.drop k2) with
        | error F =>
          rw [hr2] at hq2
          obtain ⟨f1, I4, k4, u4, t1, t2, t3, t4, t5, t6⟩ := hq2
          exact ⟨f1, I4, k4, u4, hgo.trans t1, t2, by omega, hfr.tr t4, t5, by omega⟩
        | ok p2 =>
          rw [hr2] at hq2
          obtain ⟨L2, c2⟩ := p2
          obtain ⟨I4, k4, t1, t2, t3, t4, t5, t6, t7, t8⟩ := hq2
          dsimp only at t3 t6 t7
          refine ⟨I4, k4, hgo.trans t1, t2, t3, by omega, hfr.tr t5, ?_, ?_, fun i hi => ?_⟩
          · show I4 216 13 = zn (u + (c1 ++ [(o, 0)] ++ c2).length)
            rw [t6, List.length_append, List.length_append, List.length_singleton, show u + c1.length + 1 + c2.length = u + (c1.length + 1 + c2.length) from by omega]
          · refine zcm_app (zcm_app (zcm_fr (zcm_fr r7 m3) (fun i hi => t8 i (by omega))) (fun i y hy => ?_)) ?_
            · have hi := (List.getElem?_eq_some_iff.mp hy).1
              rw [List.length_singleton] at hi
              have hi0 : i = 0 := by omega
              subst hi0
              have hx2 : (o, 0) = y := Option.some.inj hy
              subst hx2
              refine ⟨by rw [(t8 _ (by omega)).1]; exact m4, fun z => absurd z (by show ¬ o = 1; omega), fun z => absurd z (by show ¬ o = 2; omega)⟩
            · rw [List.length_append, List.length_singleton, ← Nat.add_assoc]
              exact t7
          · have z7 := r8 i (by omega)
            rw [zU_ne (by decide), zU_ne (by decide)] at z7
            exact ⟨((t8 i (by omega)).1.trans (m3 i (by omega)).1).trans z7.1, ((t8 i (by omega)).2.trans (m3 i (by omega)).2).trans z7.2⟩
theorem mlevel {op : List zTo → Option Nat} (ho : op = zop6 ∨ op = zop45 ∨ op = zop9 ∨ op = zop78) {lp : Nat → zH → Option (Unit × zH)} {rc fn : zH → Option (Unit × zH)} {sub : List zTo → zPR} (hm : zsmm sub) (hs : zRe r N K q rc sub) (hA : ∀ n I J k F, 1 ≤ F → zMs I J N K k F → lp (n + 1) (zG I J r) = some ((), zG I J r)) (hB : ∀ n I J k, zMs I J N K k 0 → op (K.drop k) = none → lp (n + 1) (zG I J r) = some ((), zG I J r)) (hC : ∀ n I J k o, zMs I J N K k 0 → op (K.drop k) = some o → lp (n + 1) (zG I J r) = zo_v (zG (zU I 216 7 (zn (k + 1))) J r) 216 10 (rc (zG (zU I 216 7 (zn (k + 1))) J r)) (fun _ h2 => zo_v h2 216 10 (zm_emit sc 216 (zn o) (zn 0) h2) (fun _ h3 => lp n h3))) (hf : ∀ I J, fn (zG I J r) = zo_c (rc (zG I J r)) (fun _ h1 => lp zo_F h1)) : zRe r N K q fn (zlv op sub) := by
  intro u I J k hp
  have hq := hs u I J k hp
  unfold zlv
  have hlen := hp.2.2.1
  have hk := hp.1.2.1
  cases hr : sub (K.drop k) with
  | error F =>
    rw [hr] at hq
    obtain ⟨f1, I2, k2, u2, r1, r2, r3, r4, r5, r6⟩ := hq
    refine ⟨f1, I2, k2, u2, ?_, r2, r3, r4, r5, r6⟩
    rw [hf, zoc r1, show zo_F = 99999 + 1 from rfl]
    exact hA _ _ _ k2 F f1 r2
  | ok p =>
    rw [hr] at hq
    obtain ⟨L1, c1⟩ := p
    have hsm := hm _ L1 c1 hr
    obtain ⟨I2, k2, r1, r2, r3, r4, r5, r6, r7, r8⟩ := hq
    dsimp only at r3 r6 r7
    have hk2 := r2.2.1
    rw [r3, List.length_drop, List.length_drop] at hsm
    have hp2 : zPq2 N K q (u + c1.length) I2 J k2 := ⟨r2, r6, by omega, by rw [r5.2.1 21 (by decide) (by decide) (by decide)]; exact hp.2.2.2⟩
    have hq2 := mchain (sc := sc) ho hm hs hA hB hC (K.drop k).length (u + c1.length) I2 J k2 zo_F (by rw [List.length_drop]; omega) (by rw [List.length_drop]; unfold zo_F; omega) hp2
    have hgo : fn (zG I J r) = lp zo_F (zG I2 J r) := by rw [hf, zoc r1]
    rw [r3]
    show zML r N K q u _ I J k (zbd (zchn op sub (K.drop k).length (K.drop k2)) (fun L'' c' => .ok (L'', c1 ++ c')))
    cases hr2 : zchn op sub (K.drop k).length (K.drop k2) with
    | error F =>
      rw [hr2] at hq2
      obtain ⟨f1, I4, k4, u4, t1, t2, t3, t4, t5, t6⟩ := hq2
      exact ⟨f1, I4, k4, u4, hgo.trans t1, t2, by omega, r5.tr t4, t5, by omega⟩
    | ok p2 =>
      rw [hr2] at hq2
      obtain ⟨L2, c2⟩ := p2
      obtain ⟨I4, k4, t1, t2, t3, t4, t5, t6, t7, t8⟩ := hq2
      dsimp only at t3 t6 t7
      refine ⟨I4, k4, hgo.trans t1, t2, t3, by omega, r5.tr t5, ?_, zcm_app (zcm_fr r7 t8) t7, fun i hi => ?_⟩
      · show I4 216 13 = zn (u + (c1 ++ c2).length)
        rw [t6, List.length_append, Nat.add_assoc]
      · exact ⟨(t8 i (by omega)).1.trans (r8 i hi).1, (t8 i (by omega)).2.trans (r8 i hi).2⟩
end ZO
