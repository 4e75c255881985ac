/-! how a war stands -/
abbrev zWs : Type := (Nat → Option Nat) × (Nat → Int32) × Nat × Nat × Nat × Option Nat
def vH (V : zWs) : Nat → Option Nat := V.1
def vC (V : zWs) : Nat → Int32 := V.2.1
def vO (V : zWs) : Nat := V.2.2.1
def vF (V : zWs) : Nat := V.2.2.2.1
def vW (V : zWs) : Nat := V.2.2.2.2.1
def vD (V : zWs) : Option Nat := V.2.2.2.2.2
def zOv (A : zA) (V : zWs) : Bool := decide (0 < vW V) && decide (vW V % aF A 6 3 = 0) && decide (vD V ≠ some (vW V))
def zVw (A : zA) (t : Nat) (V : zWs) : Prop := (∀ p m, vH V p = some m → p < aP A ∧ p < aM A ∧ m < aM A) ∧ (∀ p, p < aP A → p < aM A → ∃ m, vH V p = some m) ∧ (∀ p q m, vH V p = some m → vH V q = some m → p = q) ∧ vO V < 3 ∧ vF V ≤ aF A 6 0 ∧ vW V ≤ 13 * t ∧ ∀ k, vD V = some k → k ≤ vW V
def zVc (s : Nat) (I : zII) (A : zA) (V : zWs) : Prop := (∀ p, p < 6 → I (s + 1) p = z32 (vH V p)) ∧ (∀ m, m < 6 → I (s + 2) m = vC V m) ∧ I s 2 = zn (vO V) ∧ I s 3 = zn (vF V) ∧ I s 4 = zn (vW V) ∧ I s 5 = zt (zOv A V)
def zVm (b : Nat) (I : zII) (V : zWs) : Prop := I 232 b = zn (vW V) ∧ I 232 (b + 1) = zn (vF V) ∧ I 232 (b + 2) = zn (vO V) ∧ I 232 (b + 3) = z32 (vD V) ∧ (∀ p, p < 6 → I 232 (b + 4 + p) = z32 (vH V p)) ∧ ∀ m, m < 6 → I 232 (b + 10 + m) = vC V m
theorem zVw.hw {A : zA} {t : Nat} {V : zWs} (h : zVw A t V) : zHw A (vH V) := fun p _ m hm => (h.1 p m hm).2.2
theorem zVw.mono {A : zA} {t t' : Nat} {V : zWs} (h : zVw A t V) (ht : t ≤ t') : zVw A t' V := by
  obtain ⟨h1, h2, h3, h4, h5, h6, h7⟩ := h
  exact ⟨h1, h2, h3, h4, h5, by omega, h7⟩
/-- the begin -/
def zV0 (A : zA) : zWs := (fun p => if p < aP A ∧ p < aM A then some p else none, fun m => if m < aM A then zn (aF A 5 m) else zn 0, 0, aF A 6 1, 0, none)
theorem zV0_w {A : zA} (hw : zAw A) (t : Nat) : zVw A t (zV0 A) := by
  obtain ⟨h1, h2, h3, h4, h5, h6⟩ := hw
  refine ⟨fun p m h => ?_, fun p q1 q2 => ⟨p, ?_⟩, fun p q m h1 h2 => ?_, ?_, ?_, ?_, fun k h => by cases h⟩
  · have h' : (if p < aP A ∧ p < aM A then some p else none) = some m := h
    split at h'
    · cases h'; omega
    · cases h'
  · show (if p < aP A ∧ p < aM A then some p else none) = some p
    rw [if_pos ⟨q1, q2⟩]
  · have h1' : (if p < aP A ∧ p < aM A then some p else none) = some m := h1
    have h2' : (if q < aP A ∧ q < aM A then some q else none) = some m := h2
    split at h1'
    · split at h2'
      · cases h1'; cases h2'; rfl
      · cases h2'
    · cases h1'
  · show 0 < 3; decide
  · show aF A 6 1 ≤ aF A 6 0; omega
  · show 0 ≤ 13 * t; omega
section ZS
variable {sc : zX} {I : zII} {J : zJJ} {r : zRr} {s a : Nat} {A : zA} {V : zWs}
theorem zVc.fr {I' : zII} (h : zVc s I A V) (h0 : I' s = I s) (h1 : I' (s + 1) = I (s + 1)) (h2 : I' (s + 2) = I (s + 2)) : zVc s I' A V := by
  unfold zVc at *
  rw [h0, h1, h2]
  exact h
theorem zVm.fr {b : Nat} {I' : zII} (h : zVm b I V) (h0 : I' 232 = I 232) : zVm b I' V := by
  unfold zVm at *
  rw [h0]
  exact h
theorem cbegin (hs : s = 67 ∨ s = 70) (ha : a = 96 ∨ a = 113) (hw : zAw A) (h : zAc a I A) : ∃ I', zx_State_begin sc s a (zG I J r) = some ((), zG I' J r) ∧ zFr [s, s + 1, s + 2] I I' ∧ zVc s I' A (zV0 A) := by
  have hsi : zSi s := by rcases hs with rfl | rfl; exact zSi_67; exact zSi_70
  obtain ⟨I', e, f, g1, g2, g3, g4, g5⟩ := begin_e (sc := sc) (J := J) (r := r) hsi hs ha hw.1 hw.2.1 h.1 h.2.1
  refine ⟨I', e, f, fun p hp => ?_, fun m hm => ?_, g2, ?_, g4, ?_⟩
  · rw [(g1 p hp).1]
    show _ = z32 (if p < aP A ∧ p < aM A then some p else none)
    split <;> rfl
  · rw [(g1 m hm).2]
    show _ = if m < aM A then zn (aF A 5 m) else zn 0
    split
    · next q => exact h.2.2.2.2.1 2 m (by decide) q
    · rfl
  · rw [g3]
    exact h.2.2.1 1 (by decide)
  · rw [g5]
    rfl
theorem ccopy {t : Nat} (hs : zSi s) (ht : zSi t) (hne : s + 3 ≤ t ∨ t + 3 ≤ s) (h : zVc t I A V) : ∃ I', zx_State_copyFrom sc s t (zG I J r) = some ((), zG I' J r) ∧ zFr [s, s + 1, s + 2] I I' ∧ zVc s I' A V := by
  obtain ⟨h1, h2, h3, h4, h5, h6⟩ := h
  obtain ⟨I', e, f, g1, g2, g3, g4, g5⟩ := copy_e (sc := sc) (J := J) (r := r) hs ht hne h6
  exact ⟨I', e, f, fun p hp => by rw [(g1 p hp).1]; exact h1 p hp, fun p hp => by rw [(g1 p hp).2]; exact h2 p hp, g2.trans h3, g3.trans h4, g4.trans h5, g5.trans h6⟩
/-- whose post it is -/
def zPm (g : Nat → Option Nat) (m : Nat) : Option Nat := zfd (fun k => decide (g k = some m)) 0 6
theorem zPm_s {g : Nat → Option Nat} {m p : Nat} (h : zPm g m = some p) : g p = some m ∧ p < 6 := by
  obtain ⟨h1, h2, h3, h4⟩ := zfd_s h
  exact ⟨by simpa using h1, by omega⟩
theorem zPm_n {g : Nat → Option Nat} {m : Nat} (h : zPm g m = none) : ∀ p, p < 6 → g p ≠ some m := fun p hp => by
  have := zfd_n h p (by omega) (by omega)
  simpa using this
theorem zPm_i {g : Nat → Option Nat} {m p : Nat} (hi : ∀ p q m, g p = some m → g q = some m → p = q) (hp : p < 6) (h : g p = some m) : zPm g m = some p := by
  cases hz : zPm g m with
  | none => exact absurd h (zPm_n hz p hp)
  | some q =>
    obtain ⟨h1, h2⟩ := zPm_s hz
    rw [hi p q m h h1]
theorem cpostOf (hs : zSi s) (h : zVc s I A V) (hv : ∀ p m, vH V p = some m → m < 100) {m : Nat} (hm : m < 100) : zx_State_postOf sc s (zn m) (zG I J r) = some (z32 (zPm (vH V) m), zG I J r) := by
  rw [postOf_e hs]
  congr 3
  unfold zPo zPm
  have : ∀ d j, j + d ≤ 6 → zfd (fun k => decide (I (s + 1) k = zn m)) j d = zfd (fun k => decide (vH V k = some m)) j d := by
    intro d
    induction d with
    | zero => intro j _; rfl
    | succ d ih =>
      intro j hj
      unfold zfd
      have e : decide (I (s + 1) j = zn m) = decide (vH V j = some m) := by
        rw [h.1 j (by omega), ← z32_s m]
        apply decide_eq_decide.mpr
        refine z32_inj (fun k hk => ?_) (fun k hk => by cases hk; omega)
        have := hv j k hk
        omega
      rw [e, ih (j + 1) (by omega)]
  exact this 6 0 (by decide)
theorem mpostHeldBy (hw : zAw A) (h : zAm I A) {b t : Nat} (hb : b + 16 ≤ 920) (hv : zVw A t V) (hg : zVm b I V) {m : Nat} (hm : m < 100) : zm_postHeldBy sc 216 (zn b) (zn m) (zG I J r) = some (z32 (zPm (vH V) m), zG I J r) := by
  have hP := hw.1
  have hM := hw.2.1
  refine Exists.elim (zfor0 (σ := Option Nat) (fun n j x => zm_postHeldBy_l5 sc n 216 (zn b) (zn m) (z32 x) (zn j) (zG I J r)) (fun x => some (z32 x, zG I J r)) (fun j x => (∀ p, x = some p → p < j ∧ vH V p = some m) ∧ (x = none → ∀ p, p < j → vH V p ≠ some m)) (aP A) none (by omega) ⟨fun p h => (by cases h), fun _ p hp => by omega⟩ ?_ ?_) (fun x hx9 => ?_)
  rotate_left 2
  · obtain ⟨h1, h2⟩ := hx9
    rw [um_postHeldBy]
    have hxe : x = zPm (vH V) m := by
      cases x with
      | some p =>
        obtain ⟨q1, q2⟩ := h1.1 p rfl
        exact (zPm_i hv.2.2.1 (by omega) q2).symm
      | none =>
        cases hz : zPm (vH V) m with
        | none => rfl
        | some q =>
          obtain ⟨q1, q2⟩ := zPm_s hz
          exact absurd q1 (h1.2 rfl q (hv.1 q m q1).1)
    rw [← hxe]
    exact h2
  · intro n j x hj hx
    have e4 := hg.2.2.2.2.1 j (by omega)
    refine ⟨if vH V j = some m then some j else x, ⟨fun p hp => ?_, fun hn p hp => ?_⟩, ?_⟩
    · split at hp
      · next q => cases hp; exact ⟨by omega, q⟩
      · have := hx.1 p hp; exact ⟨by omega, this.2⟩
    · split at hn
      · cases hn
      · next q =>
        by_cases c : p = j
        · rw [c]; exact q
        · exact hx.2 hn p (by omega)
    · try dsimp only
      rw [um_postHeldBy_l5]
      have hc : (z32 (vH V j) = zn m) ↔ vH V j = some m := by
        rw [← z32_s m]
        refine z32_inj (fun k hk => ?_) (fun k hk => by cases hk; omega)
        have := hv.1 j k hk
        omega
      by_cases c : vH V j = some m
      · have hc' : zn m = zn m := rfl
        rw [c] at e4
        simp (disch := first | assumption | omega) only [↓zoc (mposts_e (sc := sc) (J := J) (r := r) h), e4, c, ↓gI_64, ↓gL_64, ↓pI_64, ↓pL_64, ↓vv_64, ↓gI_65, ↓gL_65, ↓pI_65, ↓pL_65, ↓vv_65, ↓gI_67, ↓gL_67, ↓pI_67, ↓pL_67, ↓vv_67, ↓gI_70, ↓gL_70, ↓pI_70, ↓pL_70, ↓vv_70, ↓gI_73, ↓gL_73, ↓pI_73, ↓pL_73, ↓vv_73, ↓gI_77, ↓gL_77, ↓pI_77, ↓pL_77, ↓vv_77, ↓gI_84, ↓gL_84, ↓pI_84, ↓pL_84, ↓vv_84, ↓gI_90, ↓gL_90, ↓pI_90, ↓pL_90, ↓vv_90, ↓gI_216, ↓gL_216, ↓pI_216, ↓pL_216, ↓vv_216, ↓rd_66, ↓wr_66, ↓ln_66, ↓at_68, ↓pt_68, ↓at_69, ↓pt_69, ↓at_71, ↓pt_71, ↓at_72, ↓pt_72, ↓at_74, ↓pt_74, ↓at_75, ↓pt_75, ↓at_76, ↓pt_76, ↓at_78, ↓pt_78, ↓at_79, ↓pt_79, ↓at_80, ↓pt_80, ↓at_81, ↓pt_81, ↓at_82, ↓pt_82, ↓at_83, ↓pt_83, ↓at_85, ↓pt_85, ↓at_86, ↓pt_86, ↓at_87, ↓pt_87, ↓at_88, ↓pt_88, ↓at_89, ↓pt_89, ↓at_91, ↓pt_91, ↓at_95, ↓pt_95, ↓rd_217, ↓wr_217, ↓ln_217, ↓rd_218, ↓wr_218, ↓ln_218, ↓rd_219, ↓wr_219, ↓ln_219, ↓rd_220, ↓wr_220, ↓ln_220, ↓rd_221, ↓wr_221, ↓ln_221, ↓rd_222, ↓wr_222, ↓ln_222, ↓rd_223, ↓wr_223, ↓ln_223, ↓rd_224, ↓wr_224, ↓ln_224, ↓rd_225, ↓wr_225, ↓ln_225, ↓rd_226, ↓wr_226, ↓ln_226, ↓rd_227, ↓wr_227, ↓ln_227, ↓rd_228, ↓wr_228, ↓ln_228, ↓rd_229, ↓wr_229, ↓ln_229, ↓rd_230, ↓wr_230, ↓ln_230, ↓rd_231, ↓wr_231, ↓ln_231, ↓rd_232, ↓wr_232, ↓ln_232, ↓rd_233, ↓wr_233, ↓ln_233, ↓rd_234, ↓wr_234, ↓ln_234, ↓rd_235, ↓wr_235, ↓ln_235, ↓rd_236, ↓wr_236, ↓ln_236, ↓rd_237, ↓wr_237, ↓ln_237, ↓rd_238, ↓wr_238, ↓ln_238, ↓rd_239, ↓wr_239, ↓ln_239, ↓rd_240, ↓wr_240, ↓ln_240, ↓rd_241, ↓wr_241, ↓ln_241, ↓rd_242, ↓wr_242, ↓ln_242, ↓rd_243, ↓wr_243, ↓ln_243, ↓gR_64_0, ↓gR_64_1, ↓gR_64_2, ↓gR_64_3, ↓gR_64_4, ↓gR_64_5, ↓gR_64_6, ↓gR_64_7, ↓gR_64_8, ↓gR_64_9, ↓gR_64_10, ↓gR_65_0, ↓gR_67_0, ↓gR_67_1, ↓gR_70_0, ↓gR_70_1, ↓gR_73_0, ↓gR_73_1, ↓gR_73_2, ↓gR_77_3, ↓gR_77_4, ↓gR_77_7, ↓gR_77_8, ↓gR_77_9, ↓gR_77_10, ↓gR_84_0, ↓gR_84_1, ↓gR_84_2, ↓gR_84_3, ↓gR_84_4, ↓gR_90_1, ↓gR_216_1, ↓gR_216_4, ↓gR_216_5, ↓gR_216_6, ↓gR_216_9, ↓gR_216_10, ↓gR_216_11, ↓gR_216_12, ↓gR_216_14, ↓gR_216_15, ↓gR_216_16, ↓gR_216_17, ↓gR_216_22, ↓gR_216_23, ↓gR_216_24, ↓gR_216_25, ↓gR_216_27, ↓gR_216_28, ↓gR_216_29, ↓gR_216_31, ↓gR_216_35, ↓gR_216_36, ↓gR_216_37, ↓gR_216_38, ↓gR_216_39, ↓gR_216_43, ↓gR_64_11, ↓gR_64_12, ↓gR_64_13, ↓gR_64_14, ↓gQ_65, ↓gI_A, ↓gL_A, ↓pI_A, ↓pL_A, ↓vv_A, ↓gI_Lw, ↓gL_Lw, ↓pI_Lw, ↓pL_Lw, ↓vv_Lw, ↓gR_A_7, ↓gR_A_8, ↓gR_A_9, ↓gR_A_10, ↓gR_A_11, ↓gR_A_12, ↓gR_A_13, ↓gR_A_14, ↓gR_A_15, ↓gR_A_16, ↓gR_A_17, ↓gR_Lw_0, ↓gR_Lw_1, ↓gR_Lw_2, ↓gR_Lw_3, ↓gR_Lw_4, ↓at_A1, ↓pt_A1, ↓at_A2, ↓pt_A2, ↓at_A3, ↓pt_A3, ↓at_A4, ↓pt_A4, ↓at_A5, ↓pt_A5, ↓at_A6, ↓pt_A6, ↓rd_A7, ↓wr_A7, ↓ln_A7, ↓rd_A8, ↓wr_A8, ↓ln_A8, ↓at_A9, ↓pt_A9, ↓at_A10, ↓pt_A10, ↓at_A12, ↓pt_A12, ↓at_A13, ↓pt_A13, ↓at_A14, ↓pt_A14, ↓at_A15, ↓pt_A15, ↓at_A16, ↓pt_A16, ↓gI_W, ↓gL_W, ↓pI_W, ↓pL_W, ↓vv_W, ↓gR_W_1, ↓gR_W_2, ↓gR_W_3, ↓gR_W_4, ↓at_W1, ↓pt_W1, ↓at_W2, ↓pt_W2, ↓at_W3, ↓pt_W3, ↓at_W4, ↓pt_W4, ↓rdR_92, ↓rdR_93, ↓rdR_94, ↓gI_S, ↓gL_S, ↓pI_S, ↓pL_S, ↓vv_S, ↓gR_S_0, ↓gR_S_1, ↓at_S1, ↓pt_S1, ↓at_S2, ↓pt_S2, ↓gI_N, ↓gL_N, ↓pI_N, ↓pL_N, ↓vv_N, ↓gR_N_0, ↓gR_N_1, ↓gR_N_2, ↓at_N1, ↓pt_N1, ↓at_N2, ↓pt_N2, ↓at_N3, ↓pt_N3, ↓pB_S, ↓pB_S0, ↓pB_S1, ↓pB_770, ↓pB_771, ↓at_6, ↓pt_6, ↓atN, ↓ptN, ↓cS, ↓bS, ↓zol, ↓zrb, ↓zrb0, ↓zrb1, ↓reduceIte, z32_s, z32_n, zb_test, zn_add, zn_mul, zn_addN, zn_sub, zU_ne, zU_eq, zU_at, zV_ne, zV_eq, zV_at, p_le, p_nle, p_lt, p_nlt, p_eq, p_neq, p_eqN, p_leN, p_ltN, p_Nle, p_Nlt, p_Neq, p_zt0, p_zt1, eq_self, Nat.reduceAdd, Nat.reduceMul, Nat.reduceSub, Nat.reduceEqDiff, Nat.reduceLT, Nat.reduceLeDiff, if_true, if_false, Bool.false_eq_true, not_true_eq_false, not_false_eq_true, reduceCtorEq]
      · simp (disch := first | assumption | omega) only [↓zoc (mposts_e (sc := sc) (J := J) (r := r) h), e4, hc, c, ↓gI_64, ↓gL_64, ↓pI_64, ↓pL_64, ↓vv_64, ↓gI_65, ↓gL_65, ↓pI_65, ↓pL_65, ↓vv_65, ↓gI_67, ↓gL_67, ↓pI_67, ↓pL_67, ↓vv_67, ↓gI_70, ↓gL_70, ↓pI_70, ↓pL_70, ↓vv_70, ↓gI_73, ↓gL_73, ↓pI_73, ↓pL_73, ↓vv_73, ↓gI_77, ↓gL_77, ↓pI_77, ↓pL_77, ↓vv_77, ↓gI_84, ↓gL_84, ↓pI_84, ↓pL_84, ↓vv_84, ↓gI_90, ↓gL_90, ↓pI_90, ↓pL_90, ↓vv_90, ↓gI_216, ↓gL_216, ↓pI_216, ↓pL_216, ↓vv_216, ↓rd_66, ↓wr_66, ↓ln_66, ↓at_68, ↓pt_68, ↓at_69, ↓pt_69, ↓at_71, ↓pt_71, ↓at_72, ↓pt_72, ↓at_74, ↓pt_74, ↓at_75, ↓pt_75, ↓at_76, ↓pt_76, ↓at_78, ↓pt_78, ↓at_79, ↓pt_79, ↓at_80, ↓pt_80, ↓at_81, ↓pt_81, ↓at_82, ↓pt_82, ↓at_83, ↓pt_83, ↓at_85, ↓pt_85, ↓at_86, ↓pt_86, ↓at_87, ↓pt_87, ↓at_88, ↓pt_88, ↓at_89, ↓pt_89, ↓at_91, ↓pt_91, ↓at_95, ↓pt_95, ↓rd_217, ↓wr_217, ↓ln_217, ↓rd_218, ↓wr_218, ↓ln_218, ↓rd_219, ↓wr_219, ↓ln_219, ↓rd_220, ↓wr_220, ↓ln_220, ↓rd_221, ↓wr_221, ↓ln_221, ↓rd_222, ↓wr_222, ↓ln_222, ↓rd_223, ↓wr_223, ↓ln_223, ↓rd_224, ↓wr_224, ↓ln_224, ↓rd_225, ↓wr_225, ↓ln_225, ↓rd_226, ↓wr_226, ↓ln_226, ↓rd_227, ↓wr_227, ↓ln_227, ↓rd_228, ↓wr_228, ↓ln_228, ↓rd_229, ↓wr_229, ↓ln_229, ↓rd_230, ↓wr_230, ↓ln_230, ↓rd_231, ↓wr_231, ↓ln_231, ↓rd_232, ↓wr_232, ↓ln_232, ↓rd_233, ↓wr_233, ↓ln_233, ↓rd_234, ↓wr_234, ↓ln_234, ↓rd_235, ↓wr_235, ↓ln_235, ↓rd_236, ↓wr_236, ↓ln_236, ↓rd_237, ↓wr_237, ↓ln_237, ↓rd_238, ↓wr_238, ↓ln_238, ↓rd_239, ↓wr_239, ↓ln_239, ↓rd_240, ↓wr_240, ↓ln_240, ↓rd_241, ↓wr_241, ↓ln_241, ↓rd_242, ↓wr_242, ↓ln_242, ↓rd_243, ↓wr_243, ↓ln_243, ↓gR_64_0, ↓gR_64_1, ↓gR_64_2, ↓gR_64_3, ↓gR_64_4, ↓gR_64_5, ↓gR_64_6, ↓gR_64_7, ↓gR_64_8, ↓gR_64_9, ↓gR_64_10, ↓gR_65_0, ↓gR_67_0, ↓gR_67_1, ↓gR_70_0, ↓gR_70_1, ↓gR_73_0, ↓gR_73_1, ↓gR_73_2, ↓gR_77_3, ↓gR_77_4, ↓gR_77_7, ↓gR_77_8, ↓gR_77_9, ↓gR_77_10, ↓gR_84_0, ↓gR_84_1, ↓gR_84_2, ↓gR_84_3, ↓gR_84_4, ↓gR_90_1, ↓gR_216_1, ↓gR_216_4, ↓gR_216_5, ↓gR_216_6, ↓gR_216_9, ↓gR_216_10, ↓gR_216_11, ↓gR_216_12, ↓gR_216_14, ↓gR_216_15, ↓gR_216_16, ↓gR_216_17, ↓gR_216_22, ↓gR_216_23, ↓gR_216_24, ↓gR_216_25, ↓gR_216_27, ↓gR_216_28, ↓gR_216_29, ↓gR_216_31, ↓gR_216_35, ↓gR_216_36, ↓gR_216_37, ↓gR_216_38, ↓gR_216_39, ↓gR_216_43, ↓gR_64_11, ↓gR_64_12, ↓gR_64_13, ↓gR_64_14, ↓gQ_65, ↓gI_A, ↓gL_A, ↓pI_A, ↓pL_A, ↓vv_A, ↓gI_Lw, ↓gL_Lw, ↓pI_Lw, ↓pL_Lw, ↓vv_Lw, ↓gR_A_7, ↓gR_A_8, ↓gR_A_9, ↓gR_A_10, ↓gR_A_11, ↓gR_A_12, ↓gR_A_13, ↓gR_A_14, ↓gR_A_15, ↓gR_A_16, ↓gR_A_17, ↓gR_Lw_0, ↓gR_Lw_1, ↓gR_Lw_2, ↓gR_Lw_3, ↓gR_Lw_4, ↓at_A1, ↓pt_A1, ↓at_A2, ↓pt_A2, ↓at_A3, ↓pt_A3, ↓at_A4, ↓pt_A4, ↓at_A5, ↓pt_A5, ↓at_A6, ↓pt_A6, ↓rd_A7, ↓wr_A7, ↓ln_A7, ↓rd_A8, ↓wr_A8, ↓ln_A8, ↓at_A9, ↓pt_A9, ↓at_A10, ↓pt_A10, ↓at_A12, ↓pt_A12, ↓at_A13, ↓pt_A13, ↓at_A14, ↓pt_A14, ↓at_A15, ↓pt_A15, ↓at_A16, ↓pt_A16, ↓gI_W, ↓gL_W, ↓pI_W, ↓pL_W, ↓vv_W, ↓gR_W_1, ↓gR_W_2, ↓gR_W_3, ↓gR_W_4, ↓at_W1, ↓pt_W1, ↓at_W2, ↓pt_W2, ↓at_W3, ↓pt_W3, ↓at_W4, ↓pt_W4, ↓rdR_92, ↓rdR_93, ↓rdR_94, ↓gI_S, ↓gL_S, ↓pI_S, ↓pL_S, ↓vv_S, ↓gR_S_0, ↓gR_S_1, ↓at_S1, ↓pt_S1, ↓at_S2, ↓pt_S2, ↓gI_N, ↓gL_N, ↓pI_N, ↓pL_N, ↓vv_N, ↓gR_N_0, ↓gR_N_1, ↓gR_N_2, ↓at_N1, ↓pt_N1, ↓at_N2, ↓pt_N2, ↓at_N3, ↓pt_N3, ↓pB_S, ↓pB_S0, ↓pB_S1, ↓pB_770, ↓pB_771, ↓at_6, ↓pt_6, ↓atN, ↓ptN, ↓cS, ↓bS, ↓zol, ↓zrb, ↓zrb0, ↓zrb1, ↓reduceIte, z32_s, z32_n, zb_test, zn_add, zn_mul, zn_addN, zn_sub, zU_ne, zU_eq, zU_at, zV_ne, zV_eq, zV_at, p_le, p_nle, p_lt, p_nlt, p_eq, p_neq, p_eqN, p_leN, p_ltN, p_Nle, p_Nlt, p_Neq, p_zt0, p_zt1, eq_self, Nat.reduceAdd, Nat.reduceMul, Nat.reduceSub, Nat.reduceEqDiff, Nat.reduceLT, Nat.reduceLeDiff, if_true, if_false, Bool.false_eq_true, not_true_eq_false, not_false_eq_true, reduceCtorEq]
  · intro n x hx
    try dsimp only
    rw [um_postHeldBy_l5]
    simp (disch := first | assumption | omega) only [↓zoc (mposts_e (sc := sc) (J := J) (r := r) h), ↓gI_64, ↓gL_64, ↓pI_64, ↓pL_64, ↓vv_64, ↓gI_65, ↓gL_65, ↓pI_65, ↓pL_65, ↓vv_65, ↓gI_67, ↓gL_67, ↓pI_67, ↓pL_67, ↓vv_67, ↓gI_70, ↓gL_70, ↓pI_70, ↓pL_70, ↓vv_70, ↓gI_73, ↓gL_73, ↓pI_73, ↓pL_73, ↓vv_73, ↓gI_77, ↓gL_77, ↓pI_77, ↓pL_77, ↓vv_77, ↓gI_84, ↓gL_84, ↓pI_84, ↓pL_84, ↓vv_84, ↓gI_90, ↓gL_90, ↓pI_90, ↓pL_90, ↓vv_90, ↓gI_216, ↓gL_216, ↓pI_216, ↓pL_216, ↓vv_216, ↓rd_66, ↓wr_66, ↓ln_66, ↓at_68, ↓pt_68, ↓at_69, ↓pt_69, ↓at_71, ↓pt_71, ↓at_72, ↓pt_72, ↓at_74, ↓pt_74, ↓at_75, ↓pt_75, ↓at_76, ↓pt_76, ↓at_78, ↓pt_78, ↓at_79, ↓pt_79, ↓at_80, ↓pt_80, ↓at_81, ↓pt_81, ↓at_82, ↓pt_82, ↓at_83, ↓pt_83, ↓at_85, ↓pt_85, ↓at_86, ↓pt_86, ↓at_87, ↓pt_87, ↓at_88, ↓pt_88, ↓at_89, ↓pt_89, ↓at_91, ↓pt_91, ↓at_95, ↓pt_95, ↓rd_217, ↓wr_217, ↓ln_217, ↓rd_218, ↓wr_218, ↓ln_218, ↓rd_219, ↓wr_219, ↓ln_219, ↓rd_220, ↓wr_220, ↓ln_220, ↓rd_221, ↓wr_221, ↓ln_221, ↓rd_222, ↓wr_222, ↓ln_222, ↓rd_223, ↓wr_223, ↓ln_223, ↓rd_224, ↓wr_224, ↓ln_224, ↓rd_225, ↓wr_225, ↓ln_225, ↓rd_226, ↓wr_226, ↓ln_226, ↓rd_227, ↓wr_227, ↓ln_227, ↓rd_228, ↓wr_228, ↓ln_228, ↓rd_229, ↓wr_229, ↓ln_229, ↓rd_230, ↓wr_230, ↓ln_230, ↓rd_231, ↓wr_231, ↓ln_231, ↓rd_232, ↓wr_232, ↓ln_232, ↓rd_233, ↓wr_233, ↓ln_233, ↓rd_234, ↓wr_234, ↓ln_234, ↓rd_235, ↓wr_235, ↓ln_235, ↓rd_236, ↓wr_236, ↓ln_236, ↓rd_237, ↓wr_237, ↓ln_237, ↓rd_238, ↓wr_238, ↓ln_238, ↓rd_239, ↓wr_239, ↓ln_239, ↓rd_240, ↓wr_240, ↓ln_240, ↓rd_241, ↓wr_241, ↓ln_241, ↓rd_242, ↓wr_242, ↓ln_242, ↓rd_243, ↓wr_243, ↓ln_243, ↓gR_64_0, ↓gR_64_1, ↓gR_64_2, ↓gR_64_3, ↓gR_64_4, ↓gR_64_5, ↓gR_64_6, ↓gR_64_7, ↓gR_64_8, ↓gR_64_9, ↓gR_64_10, ↓gR_65_0, ↓gR_67_0, ↓gR_67_1, ↓gR_70_0, ↓gR_70_1, ↓gR_73_0, ↓gR_73_1, ↓gR_73_2, ↓gR_77_3, ↓gR_77_4, ↓gR_77_7, ↓gR_77_8, ↓gR_77_9, ↓gR_77_10, ↓gR_84_0, ↓gR_84_1, ↓gR_84_2, ↓gR_84_3, ↓gR_84_4, ↓gR_90_1, ↓gR_216_1, ↓gR_216_4, ↓gR_216_5, ↓gR_216_6, ↓gR_216_9, ↓gR_216_10, ↓gR_216_11, ↓gR_216_12, ↓gR_216_14, ↓gR_216_15, ↓gR_216_16, ↓gR_216_17, ↓gR_216_22, ↓gR_216_23, ↓gR_216_24, ↓gR_216_25, ↓gR_216_27, ↓gR_216_28, ↓gR_216_29, ↓gR_216_31, ↓gR_216_35, ↓gR_216_36, ↓gR_216_37, ↓gR_216_38, ↓gR_216_39, ↓gR_216_43, ↓gR_64_11, ↓gR_64_12, ↓gR_64_13, ↓gR_64_14, ↓gQ_65, ↓gI_A, ↓gL_A, ↓pI_A, ↓pL_A, ↓vv_A, ↓gI_Lw, ↓gL_Lw, ↓pI_Lw, ↓pL_Lw, ↓vv_Lw, ↓gR_A_7, ↓gR_A_8, ↓gR_A_9, ↓gR_A_10, ↓gR_A_11, ↓gR_A_12, ↓gR_A_13, ↓gR_A_14, ↓gR_A_15, ↓gR_A_16, ↓gR_A_17, ↓gR_Lw_0, ↓gR_Lw_1, ↓gR_Lw_2, ↓gR_Lw_3, ↓gR_Lw_4, ↓at_A1, ↓pt_A1, ↓at_A2, ↓pt_A2, ↓at_A3, ↓pt_A3, ↓at_A4, ↓pt_A4, ↓at_A5, ↓pt_A5, ↓at_A6, ↓pt_A6, ↓rd_A7, ↓wr_A7, ↓ln_A7, ↓rd_A8, ↓wr_A8, ↓ln_A8, ↓at_A9, ↓pt_A9, ↓at_A10, ↓pt_A10, ↓at_A12, ↓pt_A12, ↓at_A13, ↓pt_A13, ↓at_A14, ↓pt_A14, ↓at_A15, ↓pt_A15, ↓at_A16, ↓pt_A16, ↓gI_W, ↓gL_W, ↓pI_W, ↓pL_W, ↓vv_W, ↓gR_W_1, ↓gR_W_2, ↓gR_W_3, ↓gR_W_4, ↓at_W1, ↓pt_W1, ↓at_W2, ↓pt_W2, ↓at_W3, ↓pt_W3, ↓at_W4, ↓pt_W4, ↓rdR_92, ↓rdR_93, ↓rdR_94, ↓gI_S, ↓gL_S, ↓pI_S, ↓pL_S, ↓vv_S, ↓gR_S_0, ↓gR_S_1, ↓at_S1, ↓pt_S1, ↓at_S2, ↓pt_S2, ↓gI_N, ↓gL_N, ↓pI_N, ↓pL_N, ↓vv_N, ↓gR_N_0, ↓gR_N_1, ↓gR_N_2, ↓at_N1, ↓pt_N1, ↓at_N2, ↓pt_N2, ↓at_N3, ↓pt_N3, ↓pB_S, ↓pB_S0, ↓pB_S1, ↓pB_770, ↓pB_771, ↓at_6, ↓pt_6, ↓atN, ↓ptN, ↓cS, ↓bS, ↓zol, ↓zrb, ↓zrb0, ↓zrb1, ↓reduceIte, z32_s, z32_n, zb_test, zn_add, zn_mul, zn_addN, zn_sub, zU_ne, zU_eq, zU_at, zV_ne, zV_eq, zV_at, p_le, p_nle, p_lt, p_nlt, p_eq, p_neq, p_eqN, p_leN, p_ltN, p_Nle, p_Nlt, p_Neq, p_zt0, p_zt1, eq_self, Nat.reduceAdd, Nat.reduceMul, Nat.reduceSub, Nat.reduceEqDiff, Nat.reduceLT, Nat.reduceLeDiff, if_true, if_false, Bool.false_eq_true, not_true_eq_false, not_false_eq_true, reduceCtorEq]
end ZS
