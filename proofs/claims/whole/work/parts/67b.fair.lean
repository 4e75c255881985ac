/-! how fair the draws were: pieces -/
def zct (l : List (Nat × Nat)) (f : Nat × Nat → Bool) : Nat → Nat
  | 0 => 0
  | j + 1 => zct l f j + (match l[j]? with | some x => (if f x then 1 else 0) | none => 0)
theorem zct_s {l : List (Nat × Nat)} {f : Nat × Nat → Bool} {j : Nat} {x : Nat × Nat} (h : l[j]? = some x) : zct l f (j + 1) = zct l f j + if f x then 1 else 0 := by
  show zct l f j + (match l[j]? with | some x => (if f x then 1 else 0) | none => 0) = _
  rw [h]
theorem zct_le {l : List (Nat × Nat)} {f : Nat × Nat → Bool} : ∀ j, zct l f j ≤ j := by
  intro j
  induction j with
  | zero => exact Nat.le_refl _
  | succ j ih =>
    show zct l f j + (match l[j]? with | some x => (if f x then 1 else 0) | none => 0) ≤ j + 1
    cases l[j]? with
    | none => show zct l f j + 0 ≤ j + 1; omega
    | some x => show zct l f j + (if f x then 1 else 0) ≤ j + 1; split <;> omega
theorem zct_mo {l : List (Nat × Nat)} {f g : Nat × Nat → Bool} (h : ∀ x, f x = true → g x = true) : ∀ j, zct l f j ≤ zct l g j := by
  intro j
  induction j with
  | zero => exact Nat.le_refl _
  | succ j ih =>
    show zct l f j + (match l[j]? with | some x => (if f x then 1 else 0) | none => 0) ≤ zct l g j + (match l[j]? with | some x => (if g x then 1 else 0) | none => 0)
    cases l[j]? with
    | none => exact Nat.add_le_add_right ih 0
    | some x =>
      show zct l f j + (if f x then 1 else 0) ≤ zct l g j + (if g x then 1 else 0)
      by_cases c : f x = true
      · rw [if_pos c, if_pos (h x c)]; omega
      · rw [if_neg c]; omega
/-- told of a man; told of him and good -/
def zTk (N : zNs) (m : Nat) : Nat := zct N.2 (fun x => x.1 == m) N.2.length
def zHt (A : zA) (N : zNs) (m s : Nat) : Nat := zct N.2 (fun x => x.1 == m && Nat.ble s (aF A 1 x.2)) N.2.length
def zGd (A : zA) (s : Nat) : Nat → Nat
  | 0 => 0
  | j + 1 => zGd A s j + if s ≤ aF A 1 j then 1 else 0
theorem zGd_le {A : zA} {s : Nat} : ∀ j, zGd A s j ≤ j := by
  intro j
  induction j with
  | zero => exact Nat.le_refl _
  | succ j ih => show zGd A s j + (if s ≤ aF A 1 j then 1 else 0) ≤ j + 1; split <;> omega
def zGo2 (A : zA) (s : Nat) : Nat := zGd A s (min (aP A) (aM A))
theorem zGo2_le {A : zA} {s : Nat} : zGo2 A s ≤ aM A := Nat.le_trans (zGd_le _) (Nat.min_le_right _ _)
theorem zHt_le {A : zA} {N : zNs} {m s : Nat} : zHt A N m s ≤ zTk N m := zct_mo (fun x h => (Bool.and_eq_true _ _ ▸ h).1) _
theorem zHt_0 {A : zA} {N : zNs} {m : Nat} : zHt A N m 0 = zTk N m := by
  unfold zHt zTk
  congr 1
  funext x
  rw [show Nat.ble 0 (aF A 1 x.2) = true from Nat.ble_eq_true_of_le (Nat.zero_le _), Bool.and_true]
theorem zTk_le {N : zNs} {m : Nat} : zTk N m ≤ N.2.length := zct_le _
def zFa (A : zA) (N : zNs) (m s e : Nat) : Nat := zMi (zGo2 A s) (aM A - zGo2 A s) (zTk N m + e) (zHt A N m s + e)
section ZN
variable {sc : zX} {I : zII} {J : zJJ} {r : zRr} {h : zH} {A : zA} {N : zNs} {t : Nat}
theorem zl_pos {x : Nat} (h0 : 0 < x) (h : x < 9223372036854775808) : ¬ lg_cmp (zl x) (0 : Int64) ≤ zn 0 := by
  have h1 : (0 : Int64) < zl x := by
    rw [Int64.lt_iff_toInt_lt, zl_ti h]
    have : (0 : Int64).toInt = 0 := by decide
    omega
  have e : lg_cmp (zl x) (0 : Int64) = zn 1 := by
    unfold lg_cmp
    rw [if_pos h1]
    rfl
  rw [e]
  decide
theorem lucky_e {g b n k : Nat} (hg : g ≤ 6) (hb : b ≤ 6) (hn : n ≤ 16) (hk : k ≤ n) : zx_luckyWays sc (zn g) (zn b) (zn n) (zn k) h = some (zl (zSu g b n k (n + 1)), h) := by
  rw [ux_luckyWays]
  refine Exists.elim (zfor0 (fun q j (s : Int64 × Int64) => zx_luckyWays_l9 sc q (zn g) (zn b) (zn n) (zn k) s.1 s.2 (zn j) h) (fun s => some (s.1, h)) (fun j s => s.1 = zl (zSu g b n k j) ∧ s.2 = zl (zch n j)) (n + 1) ((0 : Int64), (1 : Int64)) (by omega) ⟨rfl, rfl⟩ ?_ ?_) (fun s hx => ?_)
  · rintro q j ⟨s1, s2⟩ hj ⟨e1, e2⟩
    (try dsimp only at e1 e2)
    subst e1 e2
    have ed : zo_dvL (zl (zch n j) * (zn n - zn j).toInt64) ((zn j + zn 1).toInt64) = some (zl (zch n (j + 1))) := by
      rw [zn_sub (by omega), zn_add, zn_64 (by omega), zn_64 (by omega), zl_mul, zdvL (by have := zch_lt (P := 1) (by decide) hn (show j ≤ n by omega); rw [Nat.one_mul] at this; exact this) (by omega) (by omega)]
      rfl
    refine ⟨(zl (zSu g b n k (j + 1)), zl (zch n (j + 1))), ⟨rfl, rfl⟩, ?_⟩
    (try dsimp only)
    rw [ux_luckyWays_l9, if_neg (by rw [zn_lt (by omega) (by omega)]; omega)]
    by_cases c : j < k
    · have e3 : zSu g b n k (j + 1) = zSu g b n k j := by
        show zSu g b n k j + (if k ≤ j then ztm g b n j else 0) = _
        rw [if_neg (by omega)]; rfl
      unfold zo_l
      dsimp only
      rw [e3, if_pos (show zn j < zn k by rw [zn_lt (by omega) (by omega)]; omega), zob ed, zn_add]
    · have e3 : zl (zSu g b n k (j + 1)) = zl (zSu g b n k j) + zl (zch n j) * zl (g ^ j) * zl (b ^ (n - j)) := by
        show zl (zSu g b n k j + (if k ≤ j then ztm g b n j else 0)) = _
        rw [if_pos (by omega), zl_mul, zl_mul, zl_add, Nat.mul_assoc]; rfl
      have e4 : zx_power sc (zn b) (zn n - zn j) h = some (zl (b ^ (n - j)), h) := by
        rw [zn_sub (by omega)]
        exact power_e (by omega) (by omega)
      unfold zo_l
      dsimp only
      rw [e3, if_neg (show ¬ zn j < zn k by rw [zn_lt (by omega) (by omega)]; omega), zoc (power_e (by omega) (by omega)), zoc e4, zob ed, zn_add]
  · rintro q ⟨s1, s2⟩ ⟨e1, e2⟩
    (try dsimp only at e1 e2)
    (try dsimp only)
    rw [ux_luckyWays_l9, if_pos (by rw [zn_lt (by omega) (by omega)]; omega)]
  · obtain ⟨⟨e1, e2⟩, e⟩ := hx
    rw [e1] at e
    exact e
theorem ctick_e (hN : zNc 73 I N) (h8 : N.2.length ≤ 8) (hw : ∀ x, x ∈ N.2 → x.1 < 100) {m : Nat} (hm : m < 100) : zx_Notes_ticketsOf sc 73 (zn m) (zG I J r) = some (zn (zTk N m), zG I J r) := by
  have e0 := hN.2.1
  rw [ux_Notes_ticketsOf]
  refine Exists.elim (zfor0 (fun q j (s : Int32) => zx_Notes_ticketsOf_l4 sc q 73 (zn m) s (zn j) (zG I J r)) (fun s => some (s, zG I J r)) (fun j s => s = zn (zct N.2 (fun x => x.1 == m) j)) N.2.length (zn 0) (by omega) rfl ?_ ?_) (fun s hx => ?_)
  · rintro q j s hj rfl
    have hx : N.2[j]? = some N.2[j] := List.getElem?_eq_getElem hj
    have e1 : I 75 j = _ := (hN.2.2.2 j _ hx).1
    have e2 := hw _ (List.getElem_mem hj)
    refine ⟨_, rfl, ?_⟩
    (try dsimp only)
    rw [ux_Notes_ticketsOf_l4, zct_s hx]
    by_cases c : N.2[j].1 = m
    · simp (disch := first | assumption | omega) only [e0, e1, c, beq_self_eq_true, ↓gI_64, ↓gL_64, ↓pI_64, ↓pL_64, ↓vv_64, ↓gI_65, ↓gL_65, ↓pI_65, ↓pL_65, ↓vv_65, ↓gI_67, ↓gL_67, ↓pI_67, ↓pL_67, ↓vv_67, ↓gI_70, ↓gL_70, ↓pI_70, ↓pL_70, ↓vv_70, ↓gI_73, ↓gL_73, ↓pI_73, ↓pL_73, ↓vv_73, ↓gI_77, ↓gL_77, ↓pI_77, ↓pL_77, ↓vv_77, ↓gI_84, ↓gL_84, ↓pI_84, ↓pL_84, ↓vv_84, ↓gI_90, ↓gL_90, ↓pI_90, ↓pL_90, ↓vv_90, ↓gI_216, ↓gL_216, ↓pI_216, ↓pL_216, ↓vv_216, ↓rd_66, ↓wr_66, ↓ln_66, ↓at_68, ↓pt_68, ↓at_69, ↓pt_69, ↓at_71, ↓pt_71, ↓at_72, ↓pt_72, ↓at_74, ↓pt_74, ↓at_75, ↓pt_75, ↓at_76, ↓pt_76, ↓at_78, ↓pt_78, ↓at_79, ↓pt_79, ↓at_80, ↓pt_80, ↓at_81, ↓pt_81, ↓at_82, ↓pt_82, ↓at_83, ↓pt_83, ↓at_85, ↓pt_85, ↓at_86, ↓pt_86, ↓at_87, ↓pt_87, ↓at_88, ↓pt_88, ↓at_89, ↓pt_89, ↓at_91, ↓pt_91, ↓at_95, ↓pt_95, ↓rd_217, ↓wr_217, ↓ln_217, ↓rd_218, ↓wr_218, ↓ln_218, ↓rd_219, ↓wr_219, ↓ln_219, ↓rd_220, ↓wr_220, ↓ln_220, ↓rd_221, ↓wr_221, ↓ln_221, ↓rd_222, ↓wr_222, ↓ln_222, ↓rd_223, ↓wr_223, ↓ln_223, ↓rd_224, ↓wr_224, ↓ln_224, ↓rd_225, ↓wr_225, ↓ln_225, ↓rd_226, ↓wr_226, ↓ln_226, ↓rd_227, ↓wr_227, ↓ln_227, ↓rd_228, ↓wr_228, ↓ln_228, ↓rd_229, ↓wr_229, ↓ln_229, ↓rd_230, ↓wr_230, ↓ln_230, ↓rd_231, ↓wr_231, ↓ln_231, ↓rd_232, ↓wr_232, ↓ln_232, ↓rd_233, ↓wr_233, ↓ln_233, ↓rd_234, ↓wr_234, ↓ln_234, ↓rd_235, ↓wr_235, ↓ln_235, ↓rd_236, ↓wr_236, ↓ln_236, ↓rd_237, ↓wr_237, ↓ln_237, ↓rd_238, ↓wr_238, ↓ln_238, ↓rd_239, ↓wr_239, ↓ln_239, ↓rd_240, ↓wr_240, ↓ln_240, ↓rd_241, ↓wr_241, ↓ln_241, ↓rd_242, ↓wr_242, ↓ln_242, ↓rd_243, ↓wr_243, ↓ln_243, ↓gR_64_0, ↓gR_64_1, ↓gR_64_2, ↓gR_64_3, ↓gR_64_4, ↓gR_64_5, ↓gR_64_6, ↓gR_64_7, ↓gR_64_8, ↓gR_64_9, ↓gR_64_10, ↓gR_65_0, ↓gR_67_0, ↓gR_67_1, ↓gR_70_0, ↓gR_70_1, ↓gR_73_0, ↓gR_73_1, ↓gR_73_2, ↓gR_77_3, ↓gR_77_4, ↓gR_77_7, ↓gR_77_8, ↓gR_77_9, ↓gR_77_10, ↓gR_84_0, ↓gR_84_1, ↓gR_84_2, ↓gR_84_3, ↓gR_84_4, ↓gR_90_1, ↓gR_216_1, ↓gR_216_4, ↓gR_216_5, ↓gR_216_6, ↓gR_216_9, ↓gR_216_10, ↓gR_216_11, ↓gR_216_12, ↓gR_216_14, ↓gR_216_15, ↓gR_216_16, ↓gR_216_17, ↓gR_216_22, ↓gR_216_23, ↓gR_216_24, ↓gR_216_25, ↓gR_216_27, ↓gR_216_28, ↓gR_216_29, ↓gR_216_31, ↓gR_216_35, ↓gR_216_36, ↓gR_216_37, ↓gR_216_38, ↓gR_216_39, ↓gR_216_43, ↓gR_64_11, ↓gR_64_12, ↓gR_64_13, ↓gR_64_14, ↓gQ_65, ↓gI_A, ↓gL_A, ↓pI_A, ↓pL_A, ↓vv_A, ↓gI_Lw, ↓gL_Lw, ↓pI_Lw, ↓pL_Lw, ↓vv_Lw, ↓gR_A_7, ↓gR_A_8, ↓gR_A_9, ↓gR_A_10, ↓gR_A_11, ↓gR_A_12, ↓gR_A_13, ↓gR_A_14, ↓gR_A_15, ↓gR_A_16, ↓gR_A_17, ↓gR_Lw_0, ↓gR_Lw_1, ↓gR_Lw_2, ↓gR_Lw_3, ↓gR_Lw_4, ↓at_A1, ↓pt_A1, ↓at_A2, ↓pt_A2, ↓at_A3, ↓pt_A3, ↓at_A4, ↓pt_A4, ↓at_A5, ↓pt_A5, ↓at_A6, ↓pt_A6, ↓rd_A7, ↓wr_A7, ↓ln_A7, ↓rd_A8, ↓wr_A8, ↓ln_A8, ↓at_A9, ↓pt_A9, ↓at_A10, ↓pt_A10, ↓at_A12, ↓pt_A12, ↓at_A13, ↓pt_A13, ↓at_A14, ↓pt_A14, ↓at_A15, ↓pt_A15, ↓at_A16, ↓pt_A16, ↓gI_W, ↓gL_W, ↓pI_W, ↓pL_W, ↓vv_W, ↓gR_W_1, ↓gR_W_2, ↓gR_W_3, ↓gR_W_4, ↓at_W1, ↓pt_W1, ↓at_W2, ↓pt_W2, ↓at_W3, ↓pt_W3, ↓at_W4, ↓pt_W4, ↓rdR_92, ↓rdR_93, ↓rdR_94, ↓gI_S, ↓gL_S, ↓pI_S, ↓pL_S, ↓vv_S, ↓gR_S_0, ↓gR_S_1, ↓at_S1, ↓pt_S1, ↓at_S2, ↓pt_S2, ↓gI_N, ↓gL_N, ↓pI_N, ↓pL_N, ↓vv_N, ↓gR_N_0, ↓gR_N_1, ↓gR_N_2, ↓at_N1, ↓pt_N1, ↓at_N2, ↓pt_N2, ↓at_N3, ↓pt_N3, ↓pB_S, ↓pB_S0, ↓pB_S1, ↓pB_770, ↓pB_771, ↓at_6, ↓pt_6, ↓atN, ↓ptN, ↓cS, ↓bS, ↓zol, ↓zrb, ↓zrb0, ↓zrb1, ↓reduceIte, z32_s, z32_n, zb_test, zn_add, zn_mul, zn_addN, zn_sub, zU_ne, zU_eq, zU_at, zV_ne, zV_eq, zV_at, p_le, p_nle, p_lt, p_nlt, p_eq, p_neq, p_eqN, p_leN, p_ltN, p_Nle, p_Nlt, p_Neq, p_zt0, p_zt1, eq_self, Nat.reduceAdd, Nat.reduceMul, Nat.reduceSub, Nat.reduceEqDiff, Nat.reduceLT, Nat.reduceLeDiff, if_true, if_false, Bool.false_eq_true, not_true_eq_false, not_false_eq_true, reduceCtorEq]
    · have c2 : zn N.2[j].1 ≠ zn m := fun q => c ((zn_eq (by omega) (by omega)).mp q)
      rw [if_neg (by rw [beq_iff_eq]; exact c)]
      simp (disch := first | assumption | omega) only [e0, e1, c2, Nat.add_zero, ↓gI_64, ↓gL_64, ↓pI_64, ↓pL_64, ↓vv_64, ↓gI_65, ↓gL_65, ↓pI_65, ↓pL_65, ↓vv_65, ↓gI_67, ↓gL_67, ↓pI_67, ↓pL_67, ↓vv_67, ↓gI_70, ↓gL_70, ↓pI_70, ↓pL_70, ↓vv_70, ↓gI_73, ↓gL_73, ↓pI_73, ↓pL_73, ↓vv_73, ↓gI_77, ↓gL_77, ↓pI_77, ↓pL_77, ↓vv_77, ↓gI_84, ↓gL_84, ↓pI_84, ↓pL_84, ↓vv_84, ↓gI_90, ↓gL_90, ↓pI_90, ↓pL_90, ↓vv_90, ↓gI_216, ↓gL_216, ↓pI_216, ↓pL_216, ↓vv_216, ↓rd_66, ↓wr_66, ↓ln_66, ↓at_68, ↓pt_68, ↓at_69, ↓pt_69, ↓at_71, ↓pt_71, ↓at_72, ↓pt_72, ↓at_74, ↓pt_74, ↓at_75, ↓pt_75, ↓at_76, ↓pt_76, ↓at_78, ↓pt_78, ↓at_79, ↓pt_79, ↓at_80, ↓pt_80, ↓at_81, ↓pt_81, ↓at_82, ↓pt_82, ↓at_83, ↓pt_83, ↓at_85, ↓pt_85, ↓at_86, ↓pt_86, ↓at_87, ↓pt_87, ↓at_88, ↓pt_88, ↓at_89, ↓pt_89, ↓at_91, ↓pt_91, ↓at_95, ↓pt_95, ↓rd_217, ↓wr_217, ↓ln_217, ↓rd_218, ↓wr_218, ↓ln_218, ↓rd_219, ↓wr_219, ↓ln_219, ↓rd_220, ↓wr_220, ↓ln_220, ↓rd_221, ↓wr_221, ↓ln_221, ↓rd_222, ↓wr_222, ↓ln_222, ↓rd_223, ↓wr_223, ↓ln_223, ↓rd_224, ↓wr_224, ↓ln_224, ↓rd_225, ↓wr_225, ↓ln_225, ↓rd_226, ↓wr_226, ↓ln_226, ↓rd_227, ↓wr_227, ↓ln_227, ↓rd_228, ↓wr_228, ↓ln_228, ↓rd_229, ↓wr_229, ↓ln_229, ↓rd_230, ↓wr_230, ↓ln_230, ↓rd_231, ↓wr_231, ↓ln_231, ↓rd_232, ↓wr_232, ↓ln_232, ↓rd_233, ↓wr_233, ↓ln_233, ↓rd_234, ↓wr_234, ↓ln_234, ↓rd_235, ↓wr_235, ↓ln_235, ↓rd_236, ↓wr_236, ↓ln_236, ↓rd_237, ↓wr_237, ↓ln_237, ↓rd_238, ↓wr_238, ↓ln_238, ↓rd_239, ↓wr_239, ↓ln_239, ↓rd_240, ↓wr_240, ↓ln_240, ↓rd_241, ↓wr_241, ↓ln_241, ↓rd_242, ↓wr_242, ↓ln_242, ↓rd_243, ↓wr_243, ↓ln_243, ↓gR_64_0, ↓gR_64_1, ↓gR_64_2, ↓gR_64_3, ↓gR_64_4, ↓gR_64_5, ↓gR_64_6, ↓gR_64_7, ↓gR_64_8, ↓gR_64_9, ↓gR_64_10, ↓gR_65_0, ↓gR_67_0, ↓gR_67_1, ↓gR_70_0, ↓gR_70_1, ↓gR_73_0, ↓gR_73_1, ↓gR_73_2, ↓gR_77_3, ↓gR_77_4, ↓gR_77_7, ↓gR_77_8, ↓gR_77_9, ↓gR_77_10, ↓gR_84_0, ↓gR_84_1, ↓gR_84_2, ↓gR_84_3, ↓gR_84_4, ↓gR_90_1, ↓gR_216_1, ↓gR_216_4, ↓gR_216_5, ↓gR_216_6, ↓gR_216_9, ↓gR_216_10, ↓gR_216_11, ↓gR_216_12, ↓gR_216_14, ↓gR_216_15, ↓gR_216_16, ↓gR_216_17, ↓gR_216_22, ↓gR_216_23, ↓gR_216_24, ↓gR_216_25, ↓gR_216_27, ↓gR_216_28, ↓gR_216_29, ↓gR_216_31, ↓gR_216_35, ↓gR_216_36, ↓gR_216_37, ↓gR_216_38, ↓gR_216_39, ↓gR_216_43, ↓gR_64_11, ↓gR_64_12, ↓gR_64_13, ↓gR_64_14, ↓gQ_65, ↓gI_A, ↓gL_A, ↓pI_A, ↓pL_A, ↓vv_A, ↓gI_Lw, ↓gL_Lw, ↓pI_Lw, ↓pL_Lw, ↓vv_Lw, ↓gR_A_7, ↓gR_A_8, ↓gR_A_9, ↓gR_A_10, ↓gR_A_11, ↓gR_A_12, ↓gR_A_13, ↓gR_A_14, ↓gR_A_15, ↓gR_A_16, ↓gR_A_17, ↓gR_Lw_0, ↓gR_Lw_1, ↓gR_Lw_2, ↓gR_Lw_3, ↓gR_Lw_4, ↓at_A1, ↓pt_A1, ↓at_A2, ↓pt_A2, ↓at_A3, ↓pt_A3, ↓at_A4, ↓pt_A4, ↓at_A5, ↓pt_A5, ↓at_A6, ↓pt_A6, ↓rd_A7, ↓wr_A7, ↓ln_A7, ↓rd_A8, ↓wr_A8, ↓ln_A8, ↓at_A9, ↓pt_A9, ↓at_A10, ↓pt_A10, ↓at_A12, ↓pt_A12, ↓at_A13, ↓pt_A13, ↓at_A14, ↓pt_A14, ↓at_A15, ↓pt_A15, ↓at_A16, ↓pt_A16, ↓gI_W, ↓gL_W, ↓pI_W, ↓pL_W, ↓vv_W, ↓gR_W_1, ↓gR_W_2, ↓gR_W_3, ↓gR_W_4, ↓at_W1, ↓pt_W1, ↓at_W2, ↓pt_W2, ↓at_W3, ↓pt_W3, ↓at_W4, ↓pt_W4, ↓rdR_92, ↓rdR_93, ↓rdR_94, ↓gI_S, ↓gL_S, ↓pI_S, ↓pL_S, ↓vv_S, ↓gR_S_0, ↓gR_S_1, ↓at_S1, ↓pt_S1, ↓at_S2, ↓pt_S2, ↓gI_N, ↓gL_N, ↓pI_N, ↓pL_N, ↓vv_N, ↓gR_N_0, ↓gR_N_1, ↓gR_N_2, ↓at_N1, ↓pt_N1, ↓at_N2, ↓pt_N2, ↓at_N3, ↓pt_N3, ↓pB_S, ↓pB_S0, ↓pB_S1, ↓pB_770, ↓pB_771, ↓at_6, ↓pt_6, ↓atN, ↓ptN, ↓cS, ↓bS, ↓zol, ↓zrb, ↓zrb0, ↓zrb1, ↓reduceIte, z32_s, z32_n, zb_test, zn_add, zn_mul, zn_addN, zn_sub, zU_ne, zU_eq, zU_at, zV_ne, zV_eq, zV_at, p_le, p_nle, p_lt, p_nlt, p_eq, p_neq, p_eqN, p_leN, p_ltN, p_Nle, p_Nlt, p_Neq, p_zt0, p_zt1, eq_self, Nat.reduceAdd, Nat.reduceMul, Nat.reduceSub, Nat.reduceEqDiff, Nat.reduceLT, Nat.reduceLeDiff, if_true, if_false, Bool.false_eq_true, not_true_eq_false, not_false_eq_true, reduceCtorEq]
  · intro q s _
    (try dsimp only)
    rw [ux_Notes_ticketsOf_l4]
    simp (disch := first | assumption | omega) only [e0, ↓gI_64, ↓gL_64, ↓pI_64, ↓pL_64, ↓vv_64, ↓gI_65, ↓gL_65, ↓pI_65, ↓pL_65, ↓vv_65, ↓gI_67, ↓gL_67, ↓pI_67, ↓pL_67, ↓vv_67, ↓gI_70, ↓gL_70, ↓pI_70, ↓pL_70, ↓vv_70, ↓gI_73, ↓gL_73, ↓pI_73, ↓pL_73, ↓vv_73, ↓gI_77, ↓gL_77, ↓pI_77, ↓pL_77, ↓vv_77, ↓gI_84, ↓gL_84, ↓pI_84, ↓pL_84, ↓vv_84, ↓gI_90, ↓gL_90, ↓pI_90, ↓pL_90, ↓vv_90, ↓gI_216, ↓gL_216, ↓pI_216, ↓pL_216, ↓vv_216, ↓rd_66, ↓wr_66, ↓ln_66, ↓at_68, ↓pt_68, ↓at_69, ↓pt_69, ↓at_71, ↓pt_71, ↓at_72, ↓pt_72, ↓at_74, ↓pt_74, ↓at_75, ↓pt_75, ↓at_76, ↓pt_76, ↓at_78, ↓pt_78, ↓at_79, ↓pt_79, ↓at_80, ↓pt_80, ↓at_81, ↓pt_81, ↓at_82, ↓pt_82, ↓at_83, ↓pt_83, ↓at_85, ↓pt_85, ↓at_86, ↓pt_86, ↓at_87, ↓pt_87, ↓at_88, ↓pt_88, ↓at_89, ↓pt_89, ↓at_91, ↓pt_91, ↓at_95, ↓pt_95, ↓rd_217, ↓wr_217, ↓ln_217, ↓rd_218, ↓wr_218, ↓ln_218, ↓rd_219, ↓wr_219, ↓ln_219, ↓rd_220, ↓wr_220, ↓ln_220, ↓rd_221, ↓wr_221, ↓ln_221, ↓rd_222, ↓wr_222, ↓ln_222, ↓rd_223, ↓wr_223, ↓ln_223, ↓rd_224, ↓wr_224, ↓ln_224, ↓rd_225, ↓wr_225, ↓ln_225, ↓rd_226, ↓wr_226, ↓ln_226, ↓rd_227, ↓wr_227, ↓ln_227, ↓rd_228, ↓wr_228, ↓ln_228, ↓rd_229, ↓wr_229, ↓ln_229, ↓rd_230, ↓wr_230, ↓ln_230, ↓rd_231, ↓wr_231, ↓ln_231, ↓rd_232, ↓wr_232, ↓ln_232, ↓rd_233, ↓wr_233, ↓ln_233, ↓rd_234, ↓wr_234, ↓ln_234, ↓rd_235, ↓wr_235, ↓ln_235, ↓rd_236, ↓wr_236, ↓ln_236, ↓rd_237, ↓wr_237, ↓ln_237, ↓rd_238, ↓wr_238, ↓ln_238, ↓rd_239, ↓wr_239, ↓ln_239, ↓rd_240, ↓wr_240, ↓ln_240, ↓rd_241, ↓wr_241, ↓ln_241, ↓rd_242, ↓wr_242, ↓ln_242, ↓rd_243, ↓wr_243, ↓ln_243, ↓gR_64_0, ↓gR_64_1, ↓gR_64_2, ↓gR_64_3, ↓gR_64_4, ↓gR_64_5, ↓gR_64_6, ↓gR_64_7, ↓gR_64_8, ↓gR_64_9, ↓gR_64_10, ↓gR_65_0, ↓gR_67_0, ↓gR_67_1, ↓gR_70_0, ↓gR_70_1, ↓gR_73_0, ↓gR_73_1, ↓gR_73_2, ↓gR_77_3, ↓gR_77_4, ↓gR_77_7, ↓gR_77_8, ↓gR_77_9, ↓gR_77_10, ↓gR_84_0, ↓gR_84_1, ↓gR_84_2, ↓gR_84_3, ↓gR_84_4, ↓gR_90_1, ↓gR_216_1, ↓gR_216_4, ↓gR_216_5, ↓gR_216_6, ↓gR_216_9, ↓gR_216_10, ↓gR_216_11, ↓gR_216_12, ↓gR_216_14, ↓gR_216_15, ↓gR_216_16, ↓gR_216_17, ↓gR_216_22, ↓gR_216_23, ↓gR_216_24, ↓gR_216_25, ↓gR_216_27, ↓gR_216_28, ↓gR_216_29, ↓gR_216_31, ↓gR_216_35, ↓gR_216_36, ↓gR_216_37, ↓gR_216_38, ↓gR_216_39, ↓gR_216_43, ↓gR_64_11, ↓gR_64_12, ↓gR_64_13, ↓gR_64_14, ↓gQ_65, ↓gI_A, ↓gL_A, ↓pI_A, ↓pL_A, ↓vv_A, ↓gI_Lw, ↓gL_Lw, ↓pI_Lw, ↓pL_Lw, ↓vv_Lw, ↓gR_A_7, ↓gR_A_8, ↓gR_A_9, ↓gR_A_10, ↓gR_A_11, ↓gR_A_12, ↓gR_A_13, ↓gR_A_14, ↓gR_A_15, ↓gR_A_16, ↓gR_A_17, ↓gR_Lw_0, ↓gR_Lw_1, ↓gR_Lw_2, ↓gR_Lw_3, ↓gR_Lw_4, ↓at_A1, ↓pt_A1, ↓at_A2, ↓pt_A2, ↓at_A3, ↓pt_A3, ↓at_A4, ↓pt_A4, ↓at_A5, ↓pt_A5, ↓at_A6, ↓pt_A6, ↓rd_A7, ↓wr_A7, ↓ln_A7, ↓rd_A8, ↓wr_A8, ↓ln_A8, ↓at_A9, ↓pt_A9, ↓at_A10, ↓pt_A10, ↓at_A12, ↓pt_A12, ↓at_A13, ↓pt_A13, ↓at_A14, ↓pt_A14, ↓at_A15, ↓pt_A15, ↓at_A16, ↓pt_A16, ↓gI_W, ↓gL_W, ↓pI_W, ↓pL_W, ↓vv_W, ↓gR_W_1, ↓gR_W_2, ↓gR_W_3, ↓gR_W_4, ↓at_W1, ↓pt_W1, ↓at_W2, ↓pt_W2, ↓at_W3, ↓pt_W3, ↓at_W4, ↓pt_W4, ↓rdR_92, ↓rdR_93, ↓rdR_94, ↓gI_S, ↓gL_S, ↓pI_S, ↓pL_S, ↓vv_S, ↓gR_S_0, ↓gR_S_1, ↓at_S1, ↓pt_S1, ↓at_S2, ↓pt_S2, ↓gI_N, ↓gL_N, ↓pI_N, ↓pL_N, ↓vv_N, ↓gR_N_0, ↓gR_N_1, ↓gR_N_2, ↓at_N1, ↓pt_N1, ↓at_N2, ↓pt_N2, ↓at_N3, ↓pt_N3, ↓pB_S, ↓pB_S0, ↓pB_S1, ↓pB_770, ↓pB_771, ↓at_6, ↓pt_6, ↓atN, ↓ptN, ↓cS, ↓bS, ↓zol, ↓zrb, ↓zrb0, ↓zrb1, ↓reduceIte, z32_s, z32_n, zb_test, zn_add, zn_mul, zn_addN, zn_sub, zU_ne, zU_eq, zU_at, zV_ne, zV_eq, zV_at, p_le, p_nle, p_lt, p_nlt, p_eq, p_neq, p_eqN, p_leN, p_ltN, p_Nle, p_Nlt, p_Neq, p_zt0, p_zt1, eq_self, Nat.reduceAdd, Nat.reduceMul, Nat.reduceSub, Nat.reduceEqDiff, Nat.reduceLT, Nat.reduceLeDiff, if_true, if_false, Bool.false_eq_true, not_true_eq_false, not_false_eq_true, reduceCtorEq]
  · obtain ⟨rfl, e⟩ := hx
    exact e
end ZN
