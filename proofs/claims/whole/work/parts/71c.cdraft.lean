/-! armies as told: the class's draft -/
def zpn (Q : zQs) (w : List Nat) : Option Nat := zfd (fun m => decide ((w, m) ∈ Q)) 0 6
theorem zpn_s {Q : zQs} {w : List Nat} {m : Nat} (h : zpn Q w = some m) : (w, m) ∈ Q ∧ m < 6 := by
  obtain ⟨h1, h2, h3, h4⟩ := zfd_s h
  exact ⟨of_decide_eq_true h1, by omega⟩
theorem zpn_n {Q : zQs} {w : List Nat} (h : zpn Q w = none) : ∀ m, m < 6 → (w, m) ∉ Q := fun m hm q => by
  have := zfd_n h m (by omega) (by omega)
  rw [decide_eq_true q] at this
  cases this
theorem zpn_qv {A : zA} {Q : zQs} (hw : zAw A) (hQ : zQw A Q) (w : List Nat) : (∀ m, zpn Q w = some m → zqv Q w = some m) ∧ (zpn Q w = none → ∀ y, zqv Q w = some y → 20 ≤ y) := by
  refine ⟨fun m h => ?_, fun h y hy => ?_⟩
  · have h1 := (zpn_s h).1
    cases hz : zqv Q w with
    | none => exact absurd h1 (zqv_n hz _)
    | some y =>
      have := zQw_u hQ (zqv_s hz) h1 (Or.inl rfl)
      have e : y = m := congrArg Prod.snd this
      rw [e]
  · have h1 := zqv_s hy
    rcases (hQ.2.1 _ h1).2 with g | ⟨m', g1, g2⟩
    · have g' : y < aP A := g
      have := hw.1
      exact absurd h1 (zpn_n h y (by omega))
    · have g' : y = 20 + m' := g2
      omega
/-- names of posts -/
def zQp (b : Nat) (J : zJJ) (Q : zQs) : Prop := ∀ w i, (w, i) ∈ Q → i < 20 → J (b + 7) i = zl (zcw 27 w 0)
/-- a law in the draft -/
def zLd (b u : Nat) (I : zII) (q : Nat) : Option zCo → Prop
  | none => I (b + 13) q = zn 0 ∧ I (b + 14) q = zn 0
  | some l => ∃ x, I (b + 13) q = zn x ∧ I (b + 14) q = zn (x + l.length) ∧ x + l.length ≤ u ∧ ∀ j c, l[j]? = some c → I (b + 12) (x + j) = cst c
def zDc (b : Nat) (I : zII) (J : zJJ) (D : zDft) (u : Nat) : Prop := (I b 0 = zn (aP D.1) ∧ I b 1 = zn (aM D.1) ∧ (∀ i, i < 5 → I b (2 + i) = zn (aF D.1 6 i)) ∧ (∀ p, p < aP D.1 → I (b + 1) p = zn (aF D.1 0 p) ∧ I (b + 2) p = zn (aF D.1 1 p) ∧ I (b + 3) p = z32 (aU D.1 p)) ∧ (∀ i m, i < 3 → m < aM D.1 → I (b + 4 + i) m = zn (aF D.1 (3 + i) m))) ∧ (∀ q, q < 3 → zLd b u I q (aC D.1 q)) ∧ zQp b J D.2.1 ∧ zQc b J D.2.1 ∧ (∀ i, i < 7 → zb (I b 18) i = D.2.2 i) ∧ I (b + 11) 5 = zn u
/-- what is left when it went wrong -/
def zDe (b : Nat) (I : zII) : Prop := (∃ P M, P ≤ 6 ∧ M ≤ 6 ∧ I b 0 = zn P ∧ I b 1 = zn M) ∧ zLbb b I
def zFd (b : Nat) (I : zII) (J : zJJ) (I' : zII) (J' : zJJ) : Prop := (∀ o, o ≠ 65 → ¬ (b ≤ o ∧ o ≤ b + 16) → I' o = I o) ∧ ∀ o, o ≠ 65 → o ≠ b + 7 → o ≠ b + 8 → J' o = J o
theorem zFd.refl (b : Nat) (I : zII) (J : zJJ) : zFd b I J I J := ⟨fun _ _ _ => rfl, fun _ _ _ _ => rfl⟩
theorem zFd.tr {b : Nat} {I I1 I2 : zII} {J J1 J2 : zJJ} (h : zFd b I J I1 J1) (h2 : zFd b I1 J1 I2 J2) : zFd b I J I2 J2 := ⟨fun o a c => (h2.1 o a c).trans (h.1 o a c), fun o a c d => (h2.2 o a c d).trans (h.2 o a c d)⟩
/-- what a call of the reader of armies does -/
def zCA (T : List Nat) (a b w v : Nat) (f : zH → Option (Int32 × zH)) (I : zII) (J : zJJ) (wd : Option Nat) (res : Except Nat (List zTo × zDft)) : Prop := match res with
  | .ok p => ∃ I' J' wd' u', f (zG I J (a, b, w, v, wd)) = some (zn 1, zG I' J' (a, b, w, v, wd')) ∧ zTs I' J' wd' T p.1 ∧ zFd b I J I' J' ∧ zDc b I' J' p.2 u' ∧ u' + p.1.length ≤ 1000
  | .error F => 1 ≤ F ∧ F ≤ 20000 ∧ ∃ I' J' wd', f (zG I J (a, b, w, v, wd)) = some (zn 0, zG I' J' (a, b, w, v, wd')) ∧ I' 65 9 = zn F ∧ zFd b I J I' J' ∧ zDe b I'
theorem zLd.lb {b u : Nat} (hu : u ≤ 1000) {I : zII} {q : Nat} {c : Option zCo} (h : zLd b u I q c) : ∃ x y, x ≤ 2000 ∧ y ≤ 2000 ∧ I (b + 13) q = zn x ∧ I (b + 14) q = zn y := by
  cases c with
  | none => exact ⟨0, 0, by decide, by decide, h.1, h.2⟩
  | some l =>
    obtain ⟨x, h1, h2, h3, h4⟩ := h
    exact ⟨x, x + l.length, by omega, by omega, h1, h2⟩
theorem zLd.lc {b u : Nat} (hu : u ≤ 1000) {I : zII} {q : Nat} {c : Option zCo} (h : zLd b u I q c) : zLc b I q c := by
  cases c with
  | none => exact h
  | some l =>
    obtain ⟨x, h1, h2, h3, h4⟩ := h
    exact ⟨x, h1, h2, by omega, h4⟩
theorem zLd.mono {b u u' : Nat} {I I' : zII} {q : Nat} {c : Option zCo} (h : zLd b u I q c) (hu : u ≤ u') (h3 : I' (b + 13) q = I (b + 13) q) (h4 : I' (b + 14) q = I (b + 14) q) (h2 : ∀ i, i < u → I' (b + 12) i = I (b + 12) i) : zLd b u' I' q c := by
  cases c with
  | none => exact ⟨h3.trans h.1, h4.trans h.2⟩
  | some l =>
    obtain ⟨x, g1, g2, g3, g4⟩ := h
    refine ⟨x, h3.trans g1, h4.trans g2, by omega, fun j c hj => ?_⟩
    have := (List.getElem?_eq_some_iff.mp hj).1
    rw [h2 _ (by omega)]
    exact g4 j c hj
theorem zDc.a1 {b u : Nat} (hu : u ≤ 1000) {I : zII} {J : zJJ} {D : zDft} (h : zDc b I J D u) : zA1 b I D.1 := ⟨h.1.1, h.1.2.1, h.1.2.2.1, h.1.2.2.2.1, h.1.2.2.2.2, fun q hq => (h.2.1 q hq).lc hu⟩
/-- after a fault the counts and the laws are as they were -/
theorem zDc.de {b u : Nat} (hu : u ≤ 1000) {I I' : zII} {J : zJJ} {D : zDft} (hw : zAw D.1) (h : zDc b I J D u) (h0 : I' b 0 = I b 0) (h1 : I' b 1 = I b 1) (h3 : I' (b + 13) = I (b + 13)) (h4 : I' (b + 14) = I (b + 14)) : zDe b I' := by
  refine ⟨⟨aP D.1, aM D.1, hw.1, hw.2.1, h0.trans h.1.1, h1.trans h.1.2.1⟩, fun q hq => ?_⟩
  rw [h3, h4]
  exact (h.2.1 q hq).lb hu
/-- what the draft is, when only the reader moved -/
theorem zDc.fr {b u : Nat} {I I' : zII} {J J' : zJJ} {D : zDft} (h : zDc b I J D u) (hI : ∀ o, b ≤ o → o ≤ b + 16 → I' o = I o) (hJ : ∀ o, b ≤ o → o ≤ b + 16 → J' o = J o) : zDc b I' J' D u := by
  obtain ⟨⟨h1, h2, h3, h4, h5⟩, h6, h7, h8, h9, h10⟩ := h
  have e0 := hI b (by omega) (by omega)
  refine ⟨⟨by rw [e0]; exact h1, by rw [e0]; exact h2, fun i hi => by rw [e0]; exact h3 i hi, fun p hp => ?_, fun i m hi hm => ?_⟩, fun q hq => ?_, ?_, ?_, fun i hi => by rw [e0]; exact h9 i hi, by rw [hI (b + 11) (by omega) (by omega)]; exact h10⟩
  · rw [hI (b + 1) (by omega) (by omega), hI (b + 2) (by omega) (by omega), hI (b + 3) (by omega) (by omega)]; exact h4 p hp
  · rw [hI (b + 4 + i) (by omega) (by omega)]; exact h5 i m hi hm
  · exact (h6 q hq).mono (Nat.le_refl _) (by rw [hI (b + 13) (by omega) (by omega)]) (by rw [hI (b + 14) (by omega) (by omega)]) (fun i _ => by rw [hI (b + 12) (by omega) (by omega)])
  · unfold zQp at *; rw [hJ (b + 7) (by omega) (by omega)]; exact h7
  · unfold zQc at *; rw [hJ (b + 8) (by omega) (by omega)]; exact h8
section ZO
variable {sc : zX} {I : zII} {J : zJJ} {r : zRr} {a b w v : Nat} {wd : Option Nat} {T : List Nat} {L : List zTo}
theorem rdL_A7 {i : Nat} (ha : b = 96 ∨ b = 113) (hi : i < 6) : zq_rdL (zG I J r) (b + 7) (zn i) = some (J (b + 7) i) := by
  rcases ha with rfl | rfl
  · exact e_rdL (n := 6) rfl hi (by decide)
  · exact e_rdL (n := 6) rfl hi (by decide)
theorem lnL_A7 (ha : b = 96 ∨ b = 113) : zq_len sc (zG I J r) (b + 7) = some (zn 6) := by
  rcases ha with rfl | rfl
  · exact e_len (t := 1) rfl (by decide)
  · exact e_len (t := 1) rfl (by decide)
theorem cposts_e {A : zA} {Q : zQs} (ha : b = 96 ∨ b = 113) (hw : zAw A) (hQ : zQw A Q) (hp : ∀ p, p < aP A → ∃ w, (w, p) ∈ Q) (hc : zQp b J Q) {w : List Nat} (hwd : zWd w) : zx_Army_indexOf sc (b + 7) (zn (aP A)) (zl (zcw 27 w 0)) (zG I J r) = some (z32 (zpn Q w), zG I J r) := by
  have hP := hw.1
  have hb := zcw_b (b := 27) (by decide) (by decide) hwd
  have hnm : ∀ m, m < aP A → ∃ w', (w', m) ∈ Q ∧ zWd w' ∧ J (b + 7) m = zl (zcw 27 w' 0) := by
    intro m hm
    obtain ⟨w', hw'⟩ := hp m hm
    exact ⟨w', hw', (hQ.2.1 _ hw').1, hc w' m hw' (by omega)⟩
  have hfd : zpn Q w = zfd (fun m => decide ((w, m) ∈ Q)) 0 (aP A) := by
    unfold zpn
    cases hz : zfd (fun m => decide ((w, m) ∈ Q)) 0 (aP A) with
    | none =>
      refine zfd_no (fun i h1 h2 => ?_)
      by_cases hi : i < aP A
      · exact zfd_n hz i (by omega) (by omega)
      · refine decide_eq_false (fun q => ?_)
        rcases (hQ.2.1 _ q).2 with g | ⟨m, g1, g2⟩
        · exact hi g
        · have g' : i = 20 + m := g2
          omega
    | some k =>
      obtain ⟨g1, g2, g3, g4⟩ := zfd_s hz
      cases hz2 : zfd (fun m => decide ((w, m) ∈ Q)) 0 6 with
      | none =>
        have := zfd_n hz2 k (by omega) (by omega)
        rw [g1] at this; cases this
      | some k2 =>
        obtain ⟨f1, f2, f3, f4⟩ := zfd_s hz2
        have := zQw_u hQ (of_decide_eq_true g1) (of_decide_eq_true f1) (Or.inl rfl)
        have h2 : k = k2 := congrArg Prod.snd this
        rw [h2]
  rw [hfd, ux_Army_indexOf]
  rw [zsrch0 (fun n j => zx_Army_indexOf_l3 sc n (b + 7) (zn (aP A)) (zl (zcw 27 w 0)) (zn j) (zG I J r)) (fun k => some (zn k, zG I J r)) (some (zN, zG I J r)) (fun m => decide ((w, m) ∈ Q)) (aP A) (by omega) (fun n j hj => ?_) (fun n => ?_)]
  · cases zfd (fun m => decide ((w, m) ∈ Q)) 0 (aP A) <;> rfl
  · obtain ⟨w', q1, q2, q3⟩ := hnm j hj
    have hl := lgc_eq (x := zcw 27 w' 0) (y := zcw 27 w 0) (zcw_b (by decide) (by decide) q2) hb
    (try dsimp only)
    rw [ux_Army_indexOf_l3, if_neg (by rw [zn_le (by omega) (by omega)]; omega), lnL_A7 ha]
    show (if zn 6 ≤ zn j then _ else zo_b (zq_rdL (zG I J r) (b + 7) (zn j)) _) = _
    rw [if_neg (by rw [zn_le (by omega) (by omega)]; omega), rdL_A7 ha (by omega), q3]
    show (if lg_cmp (zl (zcw 27 w' 0)) (zl (zcw 27 w 0)) = zn 0 then _ else _) = _
    by_cases c : w' = w
    · rw [if_pos (hl.mpr (by rw [c])), if_pos (decide_eq_true (by rw [← c]; exact q1))]
    · have c2 : ¬ (w, j) ∈ Q := fun z => by
        have := zQw_u hQ q1 z (Or.inr rfl)
        exact c (congrArg Prod.fst this)
      rw [if_neg (fun z => c (zcw_inj (b := 27) (by decide) 8 _ _ q2.2.1 q2.2.2 hwd.2.2 (hl.mp z))), if_neg (by rw [decide_eq_true_eq]; exact c2), zn_add]
  · (try dsimp only)
    rw [ux_Army_indexOf_l3, if_pos (by rw [zn_le (by omega) (by omega)]; exact Nat.le_refl _)]
theorem zTs.jv {J' : zJJ} (h : zTs I J wd T L) (e : J' 65 = J 65) : zTs I J' wd T L := by
  obtain ⟨z1, z2, z3⟩ := h
  refine ⟨z1, ?_, z3⟩
  cases L with
  | nil => exact z2
  | cons tt MM =>
    unfold zTt at z2 ⊢
    rw [e]
    exact z2
/-- a new name -/
theorem cnew_e {D : zDft} {u : Nat} (hb : b = 96 ∨ b = 113) (hD : zDw D) (hc : zDc b I J D u) (hT : zTw T) (h : zTs I J wd T L) : zCR T a b w v [] (fun h => zx_Army_takeNewName sc b 65 h) I J wd (znn D.2.1 T.length L) (fun _ _ => True) := by
  have en := isName_e (sc := sc) (a := a) (b := b) (w := w) (v := v) h
  have e9 := fun k => wrong_e (sc := sc) (a := a) (b := b) (w := w) (v := v) hT h k
  have e0 := hc.1.1
  unfold znn
  cases hn : znm L with
  | false =>
    rw [hn] at en
    rw [if_neg (by decide)]
    obtain ⟨b1, b2⟩ := zer_b hT h (k := 1) (by decide) (by decide)
    refine ⟨b1, b2, _, _, wd, ?_, zU_eq, (zFr.refl _ I).u List.mem_cons_self, fun _ _ => rfl⟩
    (try dsimp only)
    rw [ux_Army_takeNewName]
    simp (disch := first | assumption | omega) only [↓zoc en, ↓zt_f, ↓zoc (e9 1), ↓gI_64, ↓gL_64, ↓pI_64, ↓pL_64, ↓vv_64, ↓gI_65, ↓gL_65, ↓pI_65, ↓pL_65, ↓vv_65, ↓gI_67, ↓gL_67, ↓pI_67, ↓pL_67, ↓vv_67, ↓gI_70, ↓gL_70, ↓pI_70, ↓pL_70, ↓vv_70, ↓gI_73, ↓gL_73, ↓pI_73, ↓pL_73, ↓vv_73, ↓gI_77, ↓gL_77, ↓pI_77, ↓pL_77, ↓vv_77, ↓gI_84, ↓gL_84, ↓pI_84, ↓pL_84, ↓vv_84, ↓gI_90, ↓gL_90, ↓pI_90, ↓pL_90, ↓vv_90, ↓gI_216, ↓gL_216, ↓pI_216, ↓pL_216, ↓vv_216, ↓rd_66, ↓wr_66, ↓ln_66, ↓at_68, ↓pt_68, ↓at_69, ↓pt_69, ↓at_71, ↓pt_71, ↓at_72, ↓pt_72, ↓at_74, ↓pt_74, ↓at_75, ↓pt_75, ↓at_76, ↓pt_76, ↓at_78, ↓pt_78, ↓at_79, ↓pt_79, ↓at_80, ↓pt_80, ↓at_81, ↓pt_81, ↓at_82, ↓pt_82, ↓at_83, ↓pt_83, ↓at_85, ↓pt_85, ↓at_86, ↓pt_86, ↓at_87, ↓pt_87, ↓at_88, ↓pt_88, ↓at_89, ↓pt_89, ↓at_91, ↓pt_91, ↓at_95, ↓pt_95, ↓rd_217, ↓wr_217, ↓ln_217, ↓rd_218, ↓wr_218, ↓ln_218, ↓rd_219, ↓wr_219, ↓ln_219, ↓rd_220, ↓wr_220, ↓ln_220, ↓rd_221, ↓wr_221, ↓ln_221, ↓rd_222, ↓wr_222, ↓ln_222, ↓rd_223, ↓wr_223, ↓ln_223, ↓rd_224, ↓wr_224, ↓ln_224, ↓rd_225, ↓wr_225, ↓ln_225, ↓rd_226, ↓wr_226, ↓ln_226, ↓rd_227, ↓wr_227, ↓ln_227, ↓rd_228, ↓wr_228, ↓ln_228, ↓rd_229, ↓wr_229, ↓ln_229, ↓rd_230, ↓wr_230, ↓ln_230, ↓rd_231, ↓wr_231, ↓ln_231, ↓rd_232, ↓wr_232, ↓ln_232, ↓rd_233, ↓wr_233, ↓ln_233, ↓rd_234, ↓wr_234, ↓ln_234, ↓rd_235, ↓wr_235, ↓ln_235, ↓rd_236, ↓wr_236, ↓ln_236, ↓rd_237, ↓wr_237, ↓ln_237, ↓rd_238, ↓wr_238, ↓ln_238, ↓rd_239, ↓wr_239, ↓ln_239, ↓rd_240, ↓wr_240, ↓ln_240, ↓rd_241, ↓wr_241, ↓ln_241, ↓rd_242, ↓wr_242, ↓ln_242, ↓rd_243, ↓wr_243, ↓ln_243, ↓gR_64_0, ↓gR_64_1, ↓gR_64_2, ↓gR_64_3, ↓gR_64_4, ↓gR_64_5, ↓gR_64_6, ↓gR_64_7, ↓gR_64_8, ↓gR_64_9, ↓gR_64_10, ↓gR_65_0, ↓gR_67_0, ↓gR_67_1, ↓gR_70_0, ↓gR_70_1, ↓gR_73_0, ↓gR_73_1, ↓gR_73_2, ↓gR_77_3, ↓gR_77_4, ↓gR_77_7, ↓gR_77_8, ↓gR_77_9, ↓gR_77_10, ↓gR_84_0, ↓gR_84_1, ↓gR_84_2, ↓gR_84_3, ↓gR_84_4, ↓gR_90_1, ↓gR_216_1, ↓gR_216_4, ↓gR_216_5, ↓gR_216_6, ↓gR_216_9, ↓gR_216_10, ↓gR_216_11, ↓gR_216_12, ↓gR_216_14, ↓gR_216_15, ↓gR_216_16, ↓gR_216_17, ↓gR_216_22, ↓gR_216_23, ↓gR_216_24, ↓gR_216_25, ↓gR_216_27, ↓gR_216_28, ↓gR_216_29, ↓gR_216_31, ↓gR_216_35, ↓gR_216_36, ↓gR_216_37, ↓gR_216_38, ↓gR_216_39, ↓gR_216_43, ↓gR_64_11, ↓gR_64_12, ↓gR_64_13, ↓gR_64_14, ↓gQ_65, ↓gI_A, ↓gL_A, ↓pI_A, ↓pL_A, ↓vv_A, ↓gI_Lw, ↓gL_Lw, ↓pI_Lw, ↓pL_Lw, ↓vv_Lw, ↓gR_A_7, ↓gR_A_8, ↓gR_A_9, ↓gR_A_10, ↓gR_A_11, ↓gR_A_12, ↓gR_A_13, ↓gR_A_14, ↓gR_A_15, ↓gR_A_16, ↓gR_A_17, ↓gR_Lw_0, ↓gR_Lw_1, ↓gR_Lw_2, ↓gR_Lw_3, ↓gR_Lw_4, ↓at_A1, ↓pt_A1, ↓at_A2, ↓pt_A2, ↓at_A3, ↓pt_A3, ↓at_A4, ↓pt_A4, ↓at_A5, ↓pt_A5, ↓at_A6, ↓pt_A6, ↓rd_A7, ↓wr_A7, ↓ln_A7, ↓rd_A8, ↓wr_A8, ↓ln_A8, ↓at_A9, ↓pt_A9, ↓at_A10, ↓pt_A10, ↓at_A12, ↓pt_A12, ↓at_A13, ↓pt_A13, ↓at_A14, ↓pt_A14, ↓at_A15, ↓pt_A15, ↓at_A16, ↓pt_A16, ↓gI_W, ↓gL_W, ↓pI_W, ↓pL_W, ↓vv_W, ↓gR_W_1, ↓gR_W_2, ↓gR_W_3, ↓gR_W_4, ↓at_W1, ↓pt_W1, ↓at_W2, ↓pt_W2, ↓at_W3, ↓pt_W3, ↓at_W4, ↓pt_W4, ↓rdR_92, ↓rdR_93, ↓rdR_94, ↓gI_S, ↓gL_S, ↓pI_S, ↓pL_S, ↓vv_S, ↓gR_S_0, ↓gR_S_1, ↓at_S1, ↓pt_S1, ↓at_S2, ↓pt_S2, ↓gI_N, ↓gL_N, ↓pI_N, ↓pL_N, ↓vv_N, ↓gR_N_0, ↓gR_N_1, ↓gR_N_2, ↓at_N1, ↓pt_N1, ↓at_N2, ↓pt_N2, ↓at_N3, ↓pt_N3, ↓pB_S, ↓pB_S0, ↓pB_S1, ↓pB_770, ↓pB_771, ↓at_6, ↓pt_6, ↓atN, ↓ptN, ↓cS, ↓bS, ↓zol, ↓zrb, ↓zrb0, ↓zrb1, ↓reduceIte, z32_s, z32_n, zb_test, zn_add, zn_mul, zn_addN, zn_sub, zU_ne, zU_eq, zU_at, zV_ne, zV_eq, zV_at, p_le, p_nle, p_lt, p_nlt, p_eq, p_neq, p_eqN, p_leN, p_ltN, p_Nle, p_Nlt, p_Neq, p_zt0, p_zt1, eq_self, Nat.reduceAdd, Nat.reduceMul, Nat.reduceSub, Nat.reduceEqDiff, Nat.reduceLT, Nat.reduceLeDiff, if_true, if_false, Bool.false_eq_true, not_true_eq_false, not_false_eq_true, reduceCtorEq]
  | true =>
    rw [hn] at en
    rw [if_pos rfl]
    obtain ⟨w1, w2, t, L', rfl⟩ := znm_w h hn
    have ep := cposts_e (sc := sc) (I := I) (J := J) (r := (a, b, w, v, wd)) hb hD.1 hD.2.1 hD.2.2.1 hc.2.2.1 w1
    have em := manNamed_e (sc := sc) (I := I) (J := J) (r := (a, b, w, v, wd)) hb hD.1 hc.1.2.1 hD.2.1 hc.2.2.2.1 w1
    obtain ⟨v1, v2⟩ := zmn_qv hD.1 hD.2.1 (zPay (t :: L'))
    obtain ⟨p1, p2⟩ := zpn_qv hD.1 hD.2.1 (zPay (t :: L'))
    cases hq : zqv D.2.1 (zPay (t :: L')) with
    | some y =>
      dsimp only
      obtain ⟨b1, b2⟩ := zer_b hT h (k := 3) (by decide) (by decide)
      refine ⟨b1, b2, _, _, wd, ?_, zU_eq, (zFr.refl _ I).u List.mem_cons_self, fun _ _ => rfl⟩
      (try dsimp only)
      cases hz : zpn D.2.1 (zPay (t :: L')) with
      | some m =>
        have hm6 := (zpn_s hz).2
        rw [hz] at ep
        rw [ux_Army_takeNewName]
        simp (disch := first | assumption | omega) only [↓zoc en, ↓zt_t, e0, w2, ↓zoc ep, z32_s, ↓zoc (e9 3), ↓gI_64, ↓gL_64, ↓pI_64, ↓pL_64, ↓vv_64, ↓gI_65, ↓gL_65, ↓pI_65, ↓pL_65, ↓vv_65, ↓gI_67, ↓gL_67, ↓pI_67, ↓pL_67, ↓vv_67, ↓gI_70, ↓gL_70, ↓pI_70, ↓pL_70, ↓vv_70, ↓gI_73, ↓gL_73, ↓pI_73, ↓pL_73, ↓vv_73, ↓gI_77, ↓gL_77, ↓pI_77, ↓pL_77, ↓vv_77, ↓gI_84, ↓gL_84, ↓pI_84, ↓pL_84, ↓vv_84, ↓gI_90, ↓gL_90, ↓pI_90, ↓pL_90, ↓vv_90, ↓gI_216, ↓gL_216, ↓pI_216, ↓pL_216, ↓vv_216, ↓rd_66, ↓wr_66, ↓ln_66, ↓at_68, ↓pt_68, ↓at_69, ↓pt_69, ↓at_71, ↓pt_71, ↓at_72, ↓pt_72, ↓at_74, ↓pt_74, ↓at_75, ↓pt_75, ↓at_76, ↓pt_76, ↓at_78, ↓pt_78, ↓at_79, ↓pt_79, ↓at_80, ↓pt_80, ↓at_81, ↓pt_81, ↓at_82, ↓pt_82, ↓at_83, ↓pt_83, ↓at_85, ↓pt_85, ↓at_86, ↓pt_86, ↓at_87, ↓pt_87, ↓at_88, ↓pt_88, ↓at_89, ↓pt_89, ↓at_91, ↓pt_91, ↓at_95, ↓pt_95, ↓rd_217, ↓wr_217, ↓ln_217, ↓rd_218, ↓wr_218, ↓ln_218, ↓rd_219, ↓wr_219, ↓ln_219, ↓rd_220, ↓wr_220, ↓ln_220, ↓rd_221, ↓wr_221, ↓ln_221, ↓rd_222, ↓wr_222, ↓ln_222, ↓rd_223, ↓wr_223, ↓ln_223, ↓rd_224, ↓wr_224, ↓ln_224, ↓rd_225, ↓wr_225, ↓ln_225, ↓rd_226, ↓wr_226, ↓ln_226, ↓rd_227, ↓wr_227, ↓ln_227, ↓rd_228, ↓wr_228, ↓ln_228, ↓rd_229, ↓wr_229, ↓ln_229, ↓rd_230, ↓wr_230, ↓ln_230, ↓rd_231, ↓wr_231, ↓ln_231, ↓rd_232, ↓wr_232, ↓ln_232, ↓rd_233, ↓wr_233, ↓ln_233, ↓rd_234, ↓wr_234, ↓ln_234, ↓rd_235, ↓wr_235, ↓ln_235, ↓rd_236, ↓wr_236, ↓ln_236, ↓rd_237, ↓wr_237, ↓ln_237, ↓rd_238, ↓wr_238, ↓ln_238, ↓rd_239, ↓wr_239, ↓ln_239, ↓rd_240, ↓wr_240, ↓ln_240, ↓rd_241, ↓wr_241, ↓ln_241, ↓rd_242, ↓wr_242, ↓ln_242, ↓rd_243, ↓wr_243, ↓ln_243, ↓gR_64_0, ↓gR_64_1, ↓gR_64_2, ↓gR_64_3, ↓gR_64_4, ↓gR_64_5, ↓gR_64_6, ↓gR_64_7, ↓gR_64_8, ↓gR_64_9, ↓gR_64_10, ↓gR_65_0, ↓gR_67_0, ↓gR_67_1, ↓gR_70_0, ↓gR_70_1, ↓gR_73_0, ↓gR_73_1, ↓gR_73_2, ↓gR_77_3, ↓gR_77_4, ↓gR_77_7, ↓gR_77_8, ↓gR_77_9, ↓gR_77_10, ↓gR_84_0, ↓gR_84_1, ↓gR_84_2, ↓gR_84_3, ↓gR_84_4, ↓gR_90_1, ↓gR_216_1, ↓gR_216_4, ↓gR_216_5, ↓gR_216_6, ↓gR_216_9, ↓gR_216_10, ↓gR_216_11, ↓gR_216_12, ↓gR_216_14, ↓gR_216_15, ↓gR_216_16, ↓gR_216_17, ↓gR_216_22, ↓gR_216_23, ↓gR_216_24, ↓gR_216_25, ↓gR_216_27, ↓gR_216_28, ↓gR_216_29, ↓gR_216_31, ↓gR_216_35, ↓gR_216_36, ↓gR_216_37, ↓gR_216_38, ↓gR_216_39, ↓gR_216_43, ↓gR_64_11, ↓gR_64_12, ↓gR_64_13, ↓gR_64_14, ↓gQ_65, ↓gI_A, ↓gL_A, ↓pI_A, ↓pL_A, ↓vv_A, ↓gI_Lw, ↓gL_Lw, ↓pI_Lw, ↓pL_Lw, ↓vv_Lw, ↓gR_A_7, ↓gR_A_8, ↓gR_A_9, ↓gR_A_10, ↓gR_A_11, ↓gR_A_12, ↓gR_A_13, ↓gR_A_14, ↓gR_A_15, ↓gR_A_16, ↓gR_A_17, ↓gR_Lw_0, ↓gR_Lw_1, ↓gR_Lw_2, ↓gR_Lw_3, ↓gR_Lw_4, ↓at_A1, ↓pt_A1, ↓at_A2, ↓pt_A2, ↓at_A3, ↓pt_A3, ↓at_A4, ↓pt_A4, ↓at_A5, ↓pt_A5, ↓at_A6, ↓pt_A6, ↓rd_A7, ↓wr_A7, ↓ln_A7, ↓rd_A8, ↓wr_A8, ↓ln_A8, ↓at_A9, ↓pt_A9, ↓at_A10, ↓pt_A10, ↓at_A12, ↓pt_A12, ↓at_A13, ↓pt_A13, ↓at_A14, ↓pt_A14, ↓at_A15, ↓pt_A15, ↓at_A16, ↓pt_A16, ↓gI_W, ↓gL_W, ↓pI_W, ↓pL_W, ↓vv_W, ↓gR_W_1, ↓gR_W_2, ↓gR_W_3, ↓gR_W_4, ↓at_W1, ↓pt_W1, ↓at_W2, ↓pt_W2, ↓at_W3, ↓pt_W3, ↓at_W4, ↓pt_W4, ↓rdR_92, ↓rdR_93, ↓rdR_94, ↓gI_S, ↓gL_S, ↓pI_S, ↓pL_S, ↓vv_S, ↓gR_S_0, ↓gR_S_1, ↓at_S1, ↓pt_S1, ↓at_S2, ↓pt_S2, ↓gI_N, ↓gL_N, ↓pI_N, ↓pL_N, ↓vv_N, ↓gR_N_0, ↓gR_N_1, ↓gR_N_2, ↓at_N1, ↓pt_N1, ↓at_N2, ↓pt_N2, ↓at_N3, ↓pt_N3, ↓pB_S, ↓pB_S0, ↓pB_S1, ↓pB_770, ↓pB_771, ↓at_6, ↓pt_6, ↓atN, ↓ptN, ↓cS, ↓bS, ↓zol, ↓zrb, ↓zrb0, ↓zrb1, ↓reduceIte, z32_s, z32_n, zb_test, zn_add, zn_mul, zn_addN, zn_sub, zU_ne, zU_eq, zU_at, zV_ne, zV_eq, zV_at, p_le, p_nle, p_lt, p_nlt, p_eq, p_neq, p_eqN, p_leN, p_ltN, p_Nle, p_Nlt, p_Neq, p_zt0, p_zt1, eq_self, Nat.reduceAdd, Nat.reduceMul, Nat.reduceSub, Nat.reduceEqDiff, Nat.reduceLT, Nat.reduceLeDiff, if_true, if_false, Bool.false_eq_true, not_true_eq_false, not_false_eq_true, reduceCtorEq]
      | none =>
        have h20 := p2 hz y hq
        cases hz2 : zmn D.2.1 (zPay (t :: L')) with
        | none =>
          have := v2 hz2 y hq
          omega
        | some m =>
          have hm6 := (zmn_s hz2).2
          rw [hz] at ep
          rw [hz2] at em
          rw [ux_Army_takeNewName]
          simp (disch := first | assumption | omega) only [↓zoc en, ↓zt_t, e0, w2, ↓zoc ep, z32_n, ↓zoc em, z32_s, ↓zoc (e9 3), ↓gI_64, ↓gL_64, ↓pI_64, ↓pL_64, ↓vv_64, ↓gI_65, ↓gL_65, ↓pI_65, ↓pL_65, ↓vv_65, ↓gI_67, ↓gL_67, ↓pI_67, ↓pL_67, ↓vv_67, ↓gI_70, ↓gL_70, ↓pI_70, ↓pL_70, ↓vv_70, ↓gI_73, ↓gL_73, ↓pI_73, ↓pL_73, ↓vv_73, ↓gI_77, ↓gL_77, ↓pI_77, ↓pL_77, ↓vv_77, ↓gI_84, ↓gL_84, ↓pI_84, ↓pL_84, ↓vv_84, ↓gI_90, ↓gL_90, ↓pI_90, ↓pL_90, ↓vv_90, ↓gI_216, ↓gL_216, ↓pI_216, ↓pL_216, ↓vv_216, ↓rd_66, ↓wr_66, ↓ln_66, ↓at_68, ↓pt_68, ↓at_69, ↓pt_69, ↓at_71, ↓pt_71, ↓at_72, ↓pt_72, ↓at_74, ↓pt_74, ↓at_75, ↓pt_75, ↓at_76, ↓pt_76, ↓at_78, ↓pt_78, ↓at_79, ↓pt_79, ↓at_80, ↓pt_80, ↓at_81, ↓pt_81, ↓at_82, ↓pt_82, ↓at_83, ↓pt_83, ↓at_85, ↓pt_85, ↓at_86, ↓pt_86, ↓at_87, ↓pt_87, ↓at_88, ↓pt_88, ↓at_89, ↓pt_89, ↓at_91, ↓pt_91, ↓at_95, ↓pt_95, ↓rd_217, ↓wr_217, ↓ln_217, ↓rd_218, ↓wr_218, ↓ln_218, ↓rd_219, ↓wr_219, ↓ln_219, ↓rd_220, ↓wr_220, ↓ln_220, ↓rd_221, ↓wr_221, ↓ln_221, ↓rd_222, ↓wr_222, ↓ln_222, ↓rd_223, ↓wr_223, ↓ln_223, ↓rd_224, ↓wr_224, ↓ln_224, ↓rd_225, ↓wr_225, ↓ln_225, ↓rd_226, ↓wr_226, ↓ln_226, ↓rd_227, ↓wr_227, ↓ln_227, ↓rd_228, ↓wr_228, ↓ln_228, ↓rd_229, ↓wr_229, ↓ln_229, ↓rd_230, ↓wr_230, ↓ln_230, ↓rd_231, ↓wr_231, ↓ln_231, ↓rd_232, ↓wr_232, ↓ln_232, ↓rd_233, ↓wr_233, ↓ln_233, ↓rd_234, ↓wr_234, ↓ln_234, ↓rd_235, ↓wr_235, ↓ln_235, ↓rd_236, ↓wr_236, ↓ln_236, ↓rd_237, ↓wr_237, ↓ln_237, ↓rd_238, ↓wr_238, ↓ln_238, ↓rd_239, ↓wr_239, ↓ln_239, ↓rd_240, ↓wr_240, ↓ln_240, ↓rd_241, ↓wr_241, ↓ln_241, ↓rd_242, ↓wr_242, ↓ln_242, ↓rd_243, ↓wr_243, ↓ln_243, ↓gR_64_0, ↓gR_64_1, ↓gR_64_2, ↓gR_64_3, ↓gR_64_4, ↓gR_64_5, ↓gR_64_6, ↓gR_64_7, ↓gR_64_8, ↓gR_64_9, ↓gR_64_10, ↓gR_65_0, ↓gR_67_0, ↓gR_67_1, ↓gR_70_0, ↓gR_70_1, ↓gR_73_0, ↓gR_73_1, ↓gR_73_2, ↓gR_77_3, ↓gR_77_4, ↓gR_77_7, ↓gR_77_8, ↓gR_77_9, ↓gR_77_10, ↓gR_84_0, ↓gR_84_1, ↓gR_84_2, ↓gR_84_3, ↓gR_84_4, ↓gR_90_1, ↓gR_216_1, ↓gR_216_4, ↓gR_216_5, ↓gR_216_6, ↓gR_216_9, ↓gR_216_10, ↓gR_216_11, ↓gR_216_12, ↓gR_216_14, ↓gR_216_15, ↓gR_216_16, ↓gR_216_17, ↓gR_216_22, ↓gR_216_23, ↓gR_216_24, ↓gR_216_25, ↓gR_216_27, ↓gR_216_28, ↓gR_216_29, ↓gR_216_31, ↓gR_216_35, ↓gR_216_36, ↓gR_216_37, ↓gR_216_38, ↓gR_216_39, ↓gR_216_43, ↓gR_64_11, ↓gR_64_12, ↓gR_64_13, ↓gR_64_14, ↓gQ_65, ↓gI_A, ↓gL_A, ↓pI_A, ↓pL_A, ↓vv_A, ↓gI_Lw, ↓gL_Lw, ↓pI_Lw, ↓pL_Lw, ↓vv_Lw, ↓gR_A_7, ↓gR_A_8, ↓gR_A_9, ↓gR_A_10, ↓gR_A_11, ↓gR_A_12, ↓gR_A_13, ↓gR_A_14, ↓gR_A_15, ↓gR_A_16, ↓gR_A_17, ↓gR_Lw_0, ↓gR_Lw_1, ↓gR_Lw_2, ↓gR_Lw_3, ↓gR_Lw_4, ↓at_A1, ↓pt_A1, ↓at_A2, ↓pt_A2, ↓at_A3, ↓pt_A3, ↓at_A4, ↓pt_A4, ↓at_A5, ↓pt_A5, ↓at_A6, ↓pt_A6, ↓rd_A7, ↓wr_A7, ↓ln_A7, ↓rd_A8, ↓wr_A8, ↓ln_A8, ↓at_A9, ↓pt_A9, ↓at_A10, ↓pt_A10, ↓at_A12, ↓pt_A12, ↓at_A13, ↓pt_A13, ↓at_A14, ↓pt_A14, ↓at_A15, ↓pt_A15, ↓at_A16, ↓pt_A16, ↓gI_W, ↓gL_W, ↓pI_W, ↓pL_W, ↓vv_W, ↓gR_W_1, ↓gR_W_2, ↓gR_W_3, ↓gR_W_4, ↓at_W1, ↓pt_W1, ↓at_W2, ↓pt_W2, ↓at_W3, ↓pt_W3, ↓at_W4, ↓pt_W4, ↓rdR_92, ↓rdR_93, ↓rdR_94, ↓gI_S, ↓gL_S, ↓pI_S, ↓pL_S, ↓vv_S, ↓gR_S_0, ↓gR_S_1, ↓at_S1, ↓pt_S1, ↓at_S2, ↓pt_S2, ↓gI_N, ↓gL_N, ↓pI_N, ↓pL_N, ↓vv_N, ↓gR_N_0, ↓gR_N_1, ↓gR_N_2, ↓at_N1, ↓pt_N1, ↓at_N2, ↓pt_N2, ↓at_N3, ↓pt_N3, ↓pB_S, ↓pB_S0, ↓pB_S1, ↓pB_770, ↓pB_771, ↓at_6, ↓pt_6, ↓atN, ↓ptN, ↓cS, ↓bS, ↓zol, ↓zrb, ↓zrb0, ↓zrb1, ↓reduceIte, z32_s, z32_n, zb_test, zn_add, zn_mul, zn_addN, zn_sub, zU_ne, zU_eq, zU_at, zV_ne, zV_eq, zV_at, p_le, p_nle, p_lt, p_nlt, p_eq, p_neq, p_eqN, p_leN, p_ltN, p_Nle, p_Nlt, p_Neq, p_zt0, p_zt1, eq_self, Nat.reduceAdd, Nat.reduceMul, Nat.reduceSub, Nat.reduceEqDiff, Nat.reduceLT, Nat.reduceLeDiff, if_true, if_false, Bool.false_eq_true, not_true_eq_false, not_false_eq_true, reduceCtorEq]
    | none =>
      dsimp only
      have hz : zpn D.2.1 (zPay (t :: L')) = none := by
        cases hz : zpn D.2.1 (zPay (t :: L')) with
        | none => rfl
        | some m => have := p1 m hz; rw [hq] at this; cases this
      have hz2 : zmn D.2.1 (zPay (t :: L')) = none := by
        cases hz2 : zmn D.2.1 (zPay (t :: L')) with
        | none => rfl
        | some m => have := (v1 m).mp hz2; rw [hq] at this; cases this
      rw [hz] at ep
      rw [hz2] at em
      obtain ⟨I', J', wd', x1, x2, x3, x4⟩ := stepT (sc := sc) (a := a) (b := b) (w := w) (v := v) hT h
      refine ⟨I', J', wd', ?_, x2, x3.1.mono (by intro o9 ho9; simp only [List.mem_cons, List.not_mem_nil, or_false] at ho9 ⊢; omega), x3.2, trivial⟩
      (try dsimp only)
      rw [ux_Army_takeNewName]
      simp (disch := first | assumption | omega) only [↓zoc en, ↓zt_t, e0, w2, ↓zoc ep, z32_n, ↓zoc em, ↓zoc x1, ↓gI_64, ↓gL_64, ↓pI_64, ↓pL_64, ↓vv_64, ↓gI_65, ↓gL_65, ↓pI_65, ↓pL_65, ↓vv_65, ↓gI_67, ↓gL_67, ↓pI_67, ↓pL_67, ↓vv_67, ↓gI_70, ↓gL_70, ↓pI_70, ↓pL_70, ↓vv_70, ↓gI_73, ↓gL_73, ↓pI_73, ↓pL_73, ↓vv_73, ↓gI_77, ↓gL_77, ↓pI_77, ↓pL_77, ↓vv_77, ↓gI_84, ↓gL_84, ↓pI_84, ↓pL_84, ↓vv_84, ↓gI_90, ↓gL_90, ↓pI_90, ↓pL_90, ↓vv_90, ↓gI_216, ↓gL_216, ↓pI_216, ↓pL_216, ↓vv_216, ↓rd_66, ↓wr_66, ↓ln_66, ↓at_68, ↓pt_68, ↓at_69, ↓pt_69, ↓at_71, ↓pt_71, ↓at_72, ↓pt_72, ↓at_74, ↓pt_74, ↓at_75, ↓pt_75, ↓at_76, ↓pt_76, ↓at_78, ↓pt_78, ↓at_79, ↓pt_79, ↓at_80, ↓pt_80, ↓at_81, ↓pt_81, ↓at_82, ↓pt_82, ↓at_83, ↓pt_83, ↓at_85, ↓pt_85, ↓at_86, ↓pt_86, ↓at_87, ↓pt_87, ↓at_88, ↓pt_88, ↓at_89, ↓pt_89, ↓at_91, ↓pt_91, ↓at_95, ↓pt_95, ↓rd_217, ↓wr_217, ↓ln_217, ↓rd_218, ↓wr_218, ↓ln_218, ↓rd_219, ↓wr_219, ↓ln_219, ↓rd_220, ↓wr_220, ↓ln_220, ↓rd_221, ↓wr_221, ↓ln_221, ↓rd_222, ↓wr_222, ↓ln_222, ↓rd_223, ↓wr_223, ↓ln_223, ↓rd_224, ↓wr_224, ↓ln_224, ↓rd_225, ↓wr_225, ↓ln_225, ↓rd_226, ↓wr_226, ↓ln_226, ↓rd_227, ↓wr_227, ↓ln_227, ↓rd_228, ↓wr_228, ↓ln_228, ↓rd_229, ↓wr_229, ↓ln_229, ↓rd_230, ↓wr_230, ↓ln_230, ↓rd_231, ↓wr_231, ↓ln_231, ↓rd_232, ↓wr_232, ↓ln_232, ↓rd_233, ↓wr_233, ↓ln_233, ↓rd_234, ↓wr_234, ↓ln_234, ↓rd_235, ↓wr_235, ↓ln_235, ↓rd_236, ↓wr_236, ↓ln_236, ↓rd_237, ↓wr_237, ↓ln_237, ↓rd_238, ↓wr_238, ↓ln_238, ↓rd_239, ↓wr_239, ↓ln_239, ↓rd_240, ↓wr_240, ↓ln_240, ↓rd_241, ↓wr_241, ↓ln_241, ↓rd_242, ↓wr_242, ↓ln_242, ↓rd_243, ↓wr_243, ↓ln_243, ↓gR_64_0, ↓gR_64_1, ↓gR_64_2, ↓gR_64_3, ↓gR_64_4, ↓gR_64_5, ↓gR_64_6, ↓gR_64_7, ↓gR_64_8, ↓gR_64_9, ↓gR_64_10, ↓gR_65_0, ↓gR_67_0, ↓gR_67_1, ↓gR_70_0, ↓gR_70_1, ↓gR_73_0, ↓gR_73_1, ↓gR_73_2, ↓gR_77_3, ↓gR_77_4, ↓gR_77_7, ↓gR_77_8, ↓gR_77_9, ↓gR_77_10, ↓gR_84_0, ↓gR_84_1, ↓gR_84_2, ↓gR_84_3, ↓gR_84_4, ↓gR_90_1, ↓gR_216_1, ↓gR_216_4, ↓gR_216_5, ↓gR_216_6, ↓gR_216_9, ↓gR_216_10, ↓gR_216_11, ↓gR_216_12, ↓gR_216_14, ↓gR_216_15, ↓gR_216_16, ↓gR_216_17, ↓gR_216_22, ↓gR_216_23, ↓gR_216_24, ↓gR_216_25, ↓gR_216_27, ↓gR_216_28, ↓gR_216_29, ↓gR_216_31, ↓gR_216_35, ↓gR_216_36, ↓gR_216_37, ↓gR_216_38, ↓gR_216_39, ↓gR_216_43, ↓gR_64_11, ↓gR_64_12, ↓gR_64_13, ↓gR_64_14, ↓gQ_65, ↓gI_A, ↓gL_A, ↓pI_A, ↓pL_A, ↓vv_A, ↓gI_Lw, ↓gL_Lw, ↓pI_Lw, ↓pL_Lw, ↓vv_Lw, ↓gR_A_7, ↓gR_A_8, ↓gR_A_9, ↓gR_A_10, ↓gR_A_11, ↓gR_A_12, ↓gR_A_13, ↓gR_A_14, ↓gR_A_15, ↓gR_A_16, ↓gR_A_17, ↓gR_Lw_0, ↓gR_Lw_1, ↓gR_Lw_2, ↓gR_Lw_3, ↓gR_Lw_4, ↓at_A1, ↓pt_A1, ↓at_A2, ↓pt_A2, ↓at_A3, ↓pt_A3, ↓at_A4, ↓pt_A4, ↓at_A5, ↓pt_A5, ↓at_A6, ↓pt_A6, ↓rd_A7, ↓wr_A7, ↓ln_A7, ↓rd_A8, ↓wr_A8, ↓ln_A8, ↓at_A9, ↓pt_A9, ↓at_A10, ↓pt_A10, ↓at_A12, ↓pt_A12, ↓at_A13, ↓pt_A13, ↓at_A14, ↓pt_A14, ↓at_A15, ↓pt_A15, ↓at_A16, ↓pt_A16, ↓gI_W, ↓gL_W, ↓pI_W, ↓pL_W, ↓vv_W, ↓gR_W_1, ↓gR_W_2, ↓gR_W_3, ↓gR_W_4, ↓at_W1, ↓pt_W1, ↓at_W2, ↓pt_W2, ↓at_W3, ↓pt_W3, ↓at_W4, ↓pt_W4, ↓rdR_92, ↓rdR_93, ↓rdR_94, ↓gI_S, ↓gL_S, ↓pI_S, ↓pL_S, ↓vv_S, ↓gR_S_0, ↓gR_S_1, ↓at_S1, ↓pt_S1, ↓at_S2, ↓pt_S2, ↓gI_N, ↓gL_N, ↓pI_N, ↓pL_N, ↓vv_N, ↓gR_N_0, ↓gR_N_1, ↓gR_N_2, ↓at_N1, ↓pt_N1, ↓at_N2, ↓pt_N2, ↓at_N3, ↓pt_N3, ↓pB_S, ↓pB_S0, ↓pB_S1, ↓pB_770, ↓pB_771, ↓at_6, ↓pt_6, ↓atN, ↓ptN, ↓cS, ↓bS, ↓zol, ↓zrb, ↓zrb0, ↓zrb1, ↓reduceIte, z32_s, z32_n, zb_test, zn_add, zn_mul, zn_addN, zn_sub, zU_ne, zU_eq, zU_at, zV_ne, zV_eq, zV_at, p_le, p_nle, p_lt, p_nlt, p_eq, p_neq, p_eqN, p_leN, p_ltN, p_Nle, p_Nlt, p_Neq, p_zt0, p_zt1, eq_self, Nat.reduceAdd, Nat.reduceMul, Nat.reduceSub, Nat.reduceEqDiff, Nat.reduceLT, Nat.reduceLeDiff, if_true, if_false, Bool.false_eq_true, not_true_eq_false, not_false_eq_true, reduceCtorEq]
/-- a word that must stand here -/
theorem cword_e (hT : zTw T) (h : zTs I J wd T L) {i : Nat} (hi : i < 36) (R : List Nat) : zCR T a b w v R (fun h => zx_Tape_takeWord sc 65 (some i) h) I J wd (zwo T.length i L) (fun _ _ => True) := by
  unfold zwo
  by_cases c : zws L = some i
  · rw [if_pos c]
    obtain ⟨I', J', wd', x1, x2, x3⟩ := takeWord_t (sc := sc) (a := a) (b := b) (w := w) (v := v) hT h c
    exact ⟨I', J', wd', x1, x2, x3.1.mono (fun o ho => by rw [List.mem_singleton] at ho; rw [ho]; exact List.mem_cons_self), x3.2, trivial⟩
  · rw [if_neg c]
    obtain ⟨b1, b2⟩ := zer_b hT h (k := 1) (by decide) (by decide)
    exact ⟨b1, b2, _, _, _, takeWord_f hT h hi c, zU_eq, (zFr.refl _ I).u List.mem_cons_self, fun _ _ => rfl⟩
theorem csign_e (hT : zTw T) (h : zTs I J wd T L) {c : Nat} (hc : c < 127) (R : List Nat) : zCR T a b w v R (fun h => zx_Tape_takeSign sc 65 (zn c) h) I J wd (zsi T.length c L) (fun _ _ => True) := by
  unfold zsi
  cases hz : zis L c with
  | true =>
    rw [if_pos rfl]
    obtain ⟨I', J', wd', x1, x2, x3⟩ := takeSign_t (sc := sc) (a := a) (b := b) (w := w) (v := v) hT h hc hz
    exact ⟨I', J', wd', x1, x2, x3.1.mono (fun o ho => by rw [List.mem_singleton] at ho; rw [ho]; exact List.mem_cons_self), x3.2, trivial⟩
  | false =>
    rw [if_neg (by decide)]
    obtain ⟨b1, b2⟩ := zer_b hT h (k := 1) (by decide) (by decide)
    exact ⟨b1, b2, _, _, _, takeSign_f hT h hc hz, zU_eq, (zFr.refl _ I).u List.mem_cons_self, fun _ _ => rfl⟩
/-- the post over it -/
theorem cunder_e {D : zDft} {u : Nat} (hb : b = 96 ∨ b = 113) (hD : zDw D) (hP : aP D.1 < 6) (hc : zDc b I J D u) (hT : zTw T) (h : zTs I J wd T L) (hL : zws L = some 3) : zCR T a b w v [b + 3] (fun h => zx_Army_readUnder sc b 65 h) I J wd (zun2 D.2.1 T.length L.tail) (fun y I' => I' (b + 3) (aP D.1) = zn y ∧ ∀ p, p ≠ aP D.1 → I' (b + 3) p = I (b + 3) p) := by
  obtain ⟨t, M, rfl⟩ := zws_c hL
  rw [List.tail_cons]
  obtain ⟨I1, J1, wd1, s1, s2, s3, _⟩ := stepT (sc := sc) (a := a) (b := b) (w := w) (v := v) hT h
  have hc1 : zDc b I1 J1 D u := hc.fr (fun o q1 q2 => s3.1 o (by simp only [List.mem_cons, List.not_mem_nil, or_false, not_or] <;> omega)) (fun o q1 q2 => s3.2 o (by omega))
  have en := isName_e (sc := sc) (a := a) (b := b) (w := w) (v := v) s2
  have e9 := fun k => wrong_e (sc := sc) (a := a) (b := b) (w := w) (v := v) hT s2 k
  have e0 := hc1.1.1
  cases hn : znm M with
  | false =>
    rw [hn] at en
    rw [show zun2 D.2.1 T.length M = .error (zer 1 T.length M) from by unfold zun2; rw [hn, if_neg (by decide)]]
    obtain ⟨b1, b2⟩ := zer_b hT s2 (k := 1) (by decide) (by decide)
    refine ⟨b1, b2, _, _, wd1, ?_, zU_eq, (s3.1.mono (by intro o9 ho9; simp only [List.mem_cons, List.not_mem_nil, or_false] at ho9 ⊢; omega)).u List.mem_cons_self, s3.2⟩
    (try dsimp only)
    rw [ux_Army_readUnder]
    simp (disch := first | assumption | omega) only [↓zoc s1, ↓zoc en, ↓zt_f, ↓zoc (e9 1), ↓gI_64, ↓gL_64, ↓pI_64, ↓pL_64, ↓vv_64, ↓gI_65, ↓gL_65, ↓pI_65, ↓pL_65, ↓vv_65, ↓gI_67, ↓gL_67, ↓pI_67, ↓pL_67, ↓vv_67, ↓gI_70, ↓gL_70, ↓pI_70, ↓pL_70, ↓vv_70, ↓gI_73, ↓gL_73, ↓pI_73, ↓pL_73, ↓vv_73, ↓gI_77, ↓gL_77, ↓pI_77, ↓pL_77, ↓vv_77, ↓gI_84, ↓gL_84, ↓pI_84, ↓pL_84, ↓vv_84, ↓gI_90, ↓gL_90, ↓pI_90, ↓pL_90, ↓vv_90, ↓gI_216, ↓gL_216, ↓pI_216, ↓pL_216, ↓vv_216, ↓rd_66, ↓wr_66, ↓ln_66, ↓at_68, ↓pt_68, ↓at_69, ↓pt_69, ↓at_71, ↓pt_71, ↓at_72, ↓pt_72, ↓at_74, ↓pt_74, ↓at_75, ↓pt_75, ↓at_76, ↓pt_76, ↓at_78, ↓pt_78, ↓at_79, ↓pt_79, ↓at_80, ↓pt_80, ↓at_81, ↓pt_81, ↓at_82, ↓pt_82, ↓at_83, ↓pt_83, ↓at_85, ↓pt_85, ↓at_86, ↓pt_86, ↓at_87, ↓pt_87, ↓at_88, ↓pt_88, ↓at_89, ↓pt_89, ↓at_91, ↓pt_91, ↓at_95, ↓pt_95, ↓rd_217, ↓wr_217, ↓ln_217, ↓rd_218, ↓wr_218, ↓ln_218, ↓rd_219, ↓wr_219, ↓ln_219, ↓rd_220, ↓wr_220, ↓ln_220, ↓rd_221, ↓wr_221, ↓ln_221, ↓rd_222, ↓wr_222, ↓ln_222, ↓rd_223, ↓wr_223, ↓ln_223, ↓rd_224, ↓wr_224, ↓ln_224, ↓rd_225, ↓wr_225, ↓ln_225, ↓rd_226, ↓wr_226, ↓ln_226, ↓rd_227, ↓wr_227, ↓ln_227, ↓rd_228, ↓wr_228, ↓ln_228, ↓rd_229, ↓wr_229, ↓ln_229, ↓rd_230, ↓wr_230, ↓ln_230, ↓rd_231, ↓wr_231, ↓ln_231, ↓rd_232, ↓wr_232, ↓ln_232, ↓rd_233, ↓wr_233, ↓ln_233, ↓rd_234, ↓wr_234, ↓ln_234, ↓rd_235, ↓wr_235, ↓ln_235, ↓rd_236, ↓wr_236, ↓ln_236, ↓rd_237, ↓wr_237, ↓ln_237, ↓rd_238, ↓wr_238, ↓ln_238, ↓rd_239, ↓wr_239, ↓ln_239, ↓rd_240, ↓wr_240, ↓ln_240, ↓rd_241, ↓wr_241, ↓ln_241, ↓rd_242, ↓wr_242, ↓ln_242, ↓rd_243, ↓wr_243, ↓ln_243, ↓gR_64_0, ↓gR_64_1, ↓gR_64_2, ↓gR_64_3, ↓gR_64_4, ↓gR_64_5, ↓gR_64_6, ↓gR_64_7, ↓gR_64_8, ↓gR_64_9, ↓gR_64_10, ↓gR_65_0, ↓gR_67_0, ↓gR_67_1, ↓gR_70_0, ↓gR_70_1, ↓gR_73_0, ↓gR_73_1, ↓gR_73_2, ↓gR_77_3, ↓gR_77_4, ↓gR_77_7, ↓gR_77_8, ↓gR_77_9, ↓gR_77_10, ↓gR_84_0, ↓gR_84_1, ↓gR_84_2, ↓gR_84_3, ↓gR_84_4, ↓gR_90_1, ↓gR_216_1, ↓gR_216_4, ↓gR_216_5, ↓gR_216_6, ↓gR_216_9, ↓gR_216_10, ↓gR_216_11, ↓gR_216_12, ↓gR_216_14, ↓gR_216_15, ↓gR_216_16, ↓gR_216_17, ↓gR_216_22, ↓gR_216_23, ↓gR_216_24, ↓gR_216_25, ↓gR_216_27, ↓gR_216_28, ↓gR_216_29, ↓gR_216_31, ↓gR_216_35, ↓gR_216_36, ↓gR_216_37, ↓gR_216_38, ↓gR_216_39, ↓gR_216_43, ↓gR_64_11, ↓gR_64_12, ↓gR_64_13, ↓gR_64_14, ↓gQ_65, ↓gI_A, ↓gL_A, ↓pI_A, ↓pL_A, ↓vv_A, ↓gI_Lw, ↓gL_Lw, ↓pI_Lw, ↓pL_Lw, ↓vv_Lw, ↓gR_A_7, ↓gR_A_8, ↓gR_A_9, ↓gR_A_10, ↓gR_A_11, ↓gR_A_12, ↓gR_A_13, ↓gR_A_14, ↓gR_A_15, ↓gR_A_16, ↓gR_A_17, ↓gR_Lw_0, ↓gR_Lw_1, ↓gR_Lw_2, ↓gR_Lw_3, ↓gR_Lw_4, ↓at_A1, ↓pt_A1, ↓at_A2, ↓pt_A2, ↓at_A3, ↓pt_A3, ↓at_A4, ↓pt_A4, ↓at_A5, ↓pt_A5, ↓at_A6, ↓pt_A6, ↓rd_A7, ↓wr_A7, ↓ln_A7, ↓rd_A8, ↓wr_A8, ↓ln_A8, ↓at_A9, ↓pt_A9, ↓at_A10, ↓pt_A10, ↓at_A12, ↓pt_A12, ↓at_A13, ↓pt_A13, ↓at_A14, ↓pt_A14, ↓at_A15, ↓pt_A15, ↓at_A16, ↓pt_A16, ↓gI_W, ↓gL_W, ↓pI_W, ↓pL_W, ↓vv_W, ↓gR_W_1, ↓gR_W_2, ↓gR_W_3, ↓gR_W_4, ↓at_W1, ↓pt_W1, ↓at_W2, ↓pt_W2, ↓at_W3, ↓pt_W3, ↓at_W4, ↓pt_W4, ↓rdR_92, ↓rdR_93, ↓rdR_94, ↓gI_S, ↓gL_S, ↓pI_S, ↓pL_S, ↓vv_S, ↓gR_S_0, ↓gR_S_1, ↓at_S1, ↓pt_S1, ↓at_S2, ↓pt_S2, ↓gI_N, ↓gL_N, ↓pI_N, ↓pL_N, ↓vv_N, ↓gR_N_0, ↓gR_N_1, ↓gR_N_2, ↓at_N1, ↓pt_N1, ↓at_N2, ↓pt_N2, ↓at_N3, ↓pt_N3, ↓pB_S, ↓pB_S0, ↓pB_S1, ↓pB_770, ↓pB_771, ↓at_6, ↓pt_6, ↓atN, ↓ptN, ↓cS, ↓bS, ↓zol, ↓zrb, ↓zrb0, ↓zrb1, ↓reduceIte, z32_s, z32_n, zb_test, zn_add, zn_mul, zn_addN, zn_sub, zU_ne, zU_eq, zU_at, zV_ne, zV_eq, zV_at, p_le, p_nle, p_lt, p_nlt, p_eq, p_neq, p_eqN, p_leN, p_ltN, p_Nle, p_Nlt, p_Neq, p_zt0, p_zt1, eq_self, Nat.reduceAdd, Nat.reduceMul, Nat.reduceSub, Nat.reduceEqDiff, Nat.reduceLT, Nat.reduceLeDiff, if_true, if_false, Bool.false_eq_true, not_true_eq_false, not_false_eq_true, reduceCtorEq]
  | true =>
    rw [hn] at en
    obtain ⟨w1, w2, t2, L', rfl⟩ := znm_w s2 hn
    have ep := cposts_e (sc := sc) (I := I1) (J := J1) (r := (a, b, w, v, wd1)) hb hD.1 hD.2.1 hD.2.2.1 hc1.2.2.1 w1
    obtain ⟨p1, p2⟩ := zpn_qv hD.1 hD.2.1 (zPay (t2 :: L'))
    cases hz : zpn D.2.1 (zPay (t2 :: L')) with
    | none =>
      rw [hz] at ep
      have er : zun2 D.2.1 T.length (t2 :: L') = .error (zer 2 T.length (t2 :: L')) := by
        unfold zun2
        rw [hn, if_pos rfl]
        cases hq : zqv D.2.1 (zPay (t2 :: L')) with
        | none => rfl
        | some y =>
          have := p2 hz y hq
          dsimp only
          rw [if_neg (by omega)]
      rw [er]
      obtain ⟨b1, b2⟩ := zer_b hT s2 (k := 2) (by decide) (by decide)
      refine ⟨b1, b2, _, _, wd1, ?_, zU_eq, (s3.1.mono (by intro o9 ho9; simp only [List.mem_cons, List.not_mem_nil, or_false] at ho9 ⊢; omega)).u List.mem_cons_self, s3.2⟩
      (try dsimp only)
      rw [ux_Army_readUnder]
      simp (disch := first | assumption | omega) only [↓zoc s1, ↓zoc en, ↓zt_t, e0, w2, ↓zoc ep, z32_n, ↓zoc (e9 2), ↓gI_64, ↓gL_64, ↓pI_64, ↓pL_64, ↓vv_64, ↓gI_65, ↓gL_65, ↓pI_65, ↓pL_65, ↓vv_65, ↓gI_67, ↓gL_67, ↓pI_67, ↓pL_67, ↓vv_67, ↓gI_70, ↓gL_70, ↓pI_70, ↓pL_70, ↓vv_70, ↓gI_73, ↓gL_73, ↓pI_73, ↓pL_73, ↓vv_73, ↓gI_77, ↓gL_77, ↓pI_77, ↓pL_77, ↓vv_77, ↓gI_84, ↓gL_84, ↓pI_84, ↓pL_84, ↓vv_84, ↓gI_90, ↓gL_90, ↓pI_90, ↓pL_90, ↓vv_90, ↓gI_216, ↓gL_216, ↓pI_216, ↓pL_216, ↓vv_216, ↓rd_66, ↓wr_66, ↓ln_66, ↓at_68, ↓pt_68, ↓at_69, ↓pt_69, ↓at_71, ↓pt_71, ↓at_72, ↓pt_72, ↓at_74, ↓pt_74, ↓at_75, ↓pt_75, ↓at_76, ↓pt_76, ↓at_78, ↓pt_78, ↓at_79, ↓pt_79, ↓at_80, ↓pt_80, ↓at_81, ↓pt_81, ↓at_82, ↓pt_82, ↓at_83, ↓pt_83, ↓at_85, ↓pt_85, ↓at_86, ↓pt_86, ↓at_87, ↓pt_87, ↓at_88, ↓pt_88, ↓at_89, ↓pt_89, ↓at_91, ↓pt_91, ↓at_95, ↓pt_95, ↓rd_217, ↓wr_217, ↓ln_217, ↓rd_218, ↓wr_218, ↓ln_218, ↓rd_219, ↓wr_219, ↓ln_219, ↓rd_220, ↓wr_220, ↓ln_220, ↓rd_221, ↓wr_221, ↓ln_221, ↓rd_222, ↓wr_222, ↓ln_222, ↓rd_223, ↓wr_223, ↓ln_223, ↓rd_224, ↓wr_224, ↓ln_224, ↓rd_225, ↓wr_225, ↓ln_225, ↓rd_226, ↓wr_226, ↓ln_226, ↓rd_227, ↓wr_227, ↓ln_227, ↓rd_228, ↓wr_228, ↓ln_228, ↓rd_229, ↓wr_229, ↓ln_229, ↓rd_230, ↓wr_230, ↓ln_230, ↓rd_231, ↓wr_231, ↓ln_231, ↓rd_232, ↓wr_232, ↓ln_232, ↓rd_233, ↓wr_233, ↓ln_233, ↓rd_234, ↓wr_234, ↓ln_234, ↓rd_235, ↓wr_235, ↓ln_235, ↓rd_236, ↓wr_236, ↓ln_236, ↓rd_237, ↓wr_237, ↓ln_237, ↓rd_238, ↓wr_238, ↓ln_238, ↓rd_239, ↓wr_239, ↓ln_239, ↓rd_240, ↓wr_240, ↓ln_240, ↓rd_241, ↓wr_241, ↓ln_241, ↓rd_242, ↓wr_242, ↓ln_242, ↓rd_243, ↓wr_243, ↓ln_243, ↓gR_64_0, ↓gR_64_1, ↓gR_64_2, ↓gR_64_3, ↓gR_64_4, ↓gR_64_5, ↓gR_64_6, ↓gR_64_7, ↓gR_64_8, ↓gR_64_9, ↓gR_64_10, ↓gR_65_0, ↓gR_67_0, ↓gR_67_1, ↓gR_70_0, ↓gR_70_1, ↓gR_73_0, ↓gR_73_1, ↓gR_73_2, ↓gR_77_3, ↓gR_77_4, ↓gR_77_7, ↓gR_77_8, ↓gR_77_9, ↓gR_77_10, ↓gR_84_0, ↓gR_84_1, ↓gR_84_2, ↓gR_84_3, ↓gR_84_4, ↓gR_90_1, ↓gR_216_1, ↓gR_216_4, ↓gR_216_5, ↓gR_216_6, ↓gR_216_9, ↓gR_216_10, ↓gR_216_11, ↓gR_216_12, ↓gR_216_14, ↓gR_216_15, ↓gR_216_16, ↓gR_216_17, ↓gR_216_22, ↓gR_216_23, ↓gR_216_24, ↓gR_216_25, ↓gR_216_27, ↓gR_216_28, ↓gR_216_29, ↓gR_216_31, ↓gR_216_35, ↓gR_216_36, ↓gR_216_37, ↓gR_216_38, ↓gR_216_39, ↓gR_216_43, ↓gR_64_11, ↓gR_64_12, ↓gR_64_13, ↓gR_64_14, ↓gQ_65, ↓gI_A, ↓gL_A, ↓pI_A, ↓pL_A, ↓vv_A, ↓gI_Lw, ↓gL_Lw, ↓pI_Lw, ↓pL_Lw, ↓vv_Lw, ↓gR_A_7, ↓gR_A_8, ↓gR_A_9, ↓gR_A_10, ↓gR_A_11, ↓gR_A_12, ↓gR_A_13, ↓gR_A_14, ↓gR_A_15, ↓gR_A_16, ↓gR_A_17, ↓gR_Lw_0, ↓gR_Lw_1, ↓gR_Lw_2, ↓gR_Lw_3, ↓gR_Lw_4, ↓at_A1, ↓pt_A1, ↓at_A2, ↓pt_A2, ↓at_A3, ↓pt_A3, ↓at_A4, ↓pt_A4, ↓at_A5, ↓pt_A5, ↓at_A6, ↓pt_A6, ↓rd_A7, ↓wr_A7, ↓ln_A7, ↓rd_A8, ↓wr_A8, ↓ln_A8, ↓at_A9, ↓pt_A9, ↓at_A10, ↓pt_A10, ↓at_A12, ↓pt_A12, ↓at_A13, ↓pt_A13, ↓at_A14, ↓pt_A14, ↓at_A15, ↓pt_A15, ↓at_A16, ↓pt_A16, ↓gI_W, ↓gL_W, ↓pI_W, ↓pL_W, ↓vv_W, ↓gR_W_1, ↓gR_W_2, ↓gR_W_3, ↓gR_W_4, ↓at_W1, ↓pt_W1, ↓at_W2, ↓pt_W2, ↓at_W3, ↓pt_W3, ↓at_W4, ↓pt_W4, ↓rdR_92, ↓rdR_93, ↓rdR_94, ↓gI_S, ↓gL_S, ↓pI_S, ↓pL_S, ↓vv_S, ↓gR_S_0, ↓gR_S_1, ↓at_S1, ↓pt_S1, ↓at_S2, ↓pt_S2, ↓gI_N, ↓gL_N, ↓pI_N, ↓pL_N, ↓vv_N, ↓gR_N_0, ↓gR_N_1, ↓gR_N_2, ↓at_N1, ↓pt_N1, ↓at_N2, ↓pt_N2, ↓at_N3, ↓pt_N3, ↓pB_S, ↓pB_S0, ↓pB_S1, ↓pB_770, ↓pB_771, ↓at_6, ↓pt_6, ↓atN, ↓ptN, ↓cS, ↓bS, ↓zol, ↓zrb, ↓zrb0, ↓zrb1, ↓reduceIte, z32_s, z32_n, zb_test, zn_add, zn_mul, zn_addN, zn_sub, zU_ne, zU_eq, zU_at, zV_ne, zV_eq, zV_at, p_le, p_nle, p_lt, p_nlt, p_eq, p_neq, p_eqN, p_leN, p_ltN, p_Nle, p_Nlt, p_Neq, p_zt0, p_zt1, eq_self, Nat.reduceAdd, Nat.reduceMul, Nat.reduceSub, Nat.reduceEqDiff, Nat.reduceLT, Nat.reduceLeDiff, if_true, if_false, Bool.false_eq_true, not_true_eq_false, not_false_eq_true, reduceCtorEq]
    | some m =>
      have hm6 := (zpn_s hz).2
      rw [hz] at ep
      have er : zun2 D.2.1 T.length (t2 :: L') = .ok ((t2 :: L').tail, m) := by
        unfold zun2
        rw [hn, if_pos rfl, p1 m hz]
        dsimp only
        rw [if_pos (by omega)]
      rw [er]
      obtain ⟨I2, hI2⟩ : ∃ I2, I2 = zU I1 (b + 3) (aP D.1) (zn m) := ⟨_, rfl⟩
      have f2 : zFr [b + 3] I1 I2 := by rw [hI2]; exact (zFr.refl _ I1).u (by simp only [List.mem_cons, List.not_mem_nil, or_false, true_or, or_true] <;> omega)
      obtain ⟨I3, J3, wd3, x1, x2, x3, _⟩ := stepT (sc := sc) (a := a) (b := b) (w := w) (v := v) hT (s2.fr65 f2 (by simp only [List.mem_cons, List.not_mem_nil, or_false, not_or] <;> omega) (by simp only [List.mem_cons, List.not_mem_nil, or_false, not_or] <;> omega))
      rw [hI2] at x1
      refine ⟨I3, J3, wd3, ?_, x2, (s3.1.mono (by intro o9 ho9; simp only [List.mem_cons, List.not_mem_nil, or_false] at ho9 ⊢; omega)).tr ((f2.mono (by intro o9 ho9; simp only [List.mem_cons, List.not_mem_nil, or_false] at ho9 ⊢; omega)).tr (x3.1.mono (by intro o9 ho9; simp only [List.mem_cons, List.not_mem_nil, or_false] at ho9 ⊢; omega))), fun o ho => (x3.2 o ho).trans (s3.2 o ho), ?_, fun p hp => ?_⟩
      · (try dsimp only)
        rw [ux_Army_readUnder]
        simp (disch := first | assumption | omega) only [↓zoc s1, ↓zoc en, ↓zt_t, e0, w2, ↓zoc ep, z32_s, ↓zoc x1, ↓gI_64, ↓gL_64, ↓pI_64, ↓pL_64, ↓vv_64, ↓gI_65, ↓gL_65, ↓pI_65, ↓pL_65, ↓vv_65, ↓gI_67, ↓gL_67, ↓pI_67, ↓pL_67, ↓vv_67, ↓gI_70, ↓gL_70, ↓pI_70, ↓pL_70, ↓vv_70, ↓gI_73, ↓gL_73, ↓pI_73, ↓pL_73, ↓vv_73, ↓gI_77, ↓gL_77, ↓pI_77, ↓pL_77, ↓vv_77, ↓gI_84, ↓gL_84, ↓pI_84, ↓pL_84, ↓vv_84, ↓gI_90, ↓gL_90, ↓pI_90, ↓pL_90, ↓vv_90, ↓gI_216, ↓gL_216, ↓pI_216, ↓pL_216, ↓vv_216, ↓rd_66, ↓wr_66, ↓ln_66, ↓at_68, ↓pt_68, ↓at_69, ↓pt_69, ↓at_71, ↓pt_71, ↓at_72, ↓pt_72, ↓at_74, ↓pt_74, ↓at_75, ↓pt_75, ↓at_76, ↓pt_76, ↓at_78, ↓pt_78, ↓at_79, ↓pt_79, ↓at_80, ↓pt_80, ↓at_81, ↓pt_81, ↓at_82, ↓pt_82, ↓at_83, ↓pt_83, ↓at_85, ↓pt_85, ↓at_86, ↓pt_86, ↓at_87, ↓pt_87, ↓at_88, ↓pt_88, ↓at_89, ↓pt_89, ↓at_91, ↓pt_91, ↓at_95, ↓pt_95, ↓rd_217, ↓wr_217, ↓ln_217, ↓rd_218, ↓wr_218, ↓ln_218, ↓rd_219, ↓wr_219, ↓ln_219, ↓rd_220, ↓wr_220, ↓ln_220, ↓rd_221, ↓wr_221, ↓ln_221, ↓rd_222, ↓wr_222, ↓ln_222, ↓rd_223, ↓wr_223, ↓ln_223, ↓rd_224, ↓wr_224, ↓ln_224, ↓rd_225, ↓wr_225, ↓ln_225, ↓rd_226, ↓wr_226, ↓ln_226, ↓rd_227, ↓wr_227, ↓ln_227, ↓rd_228, ↓wr_228, ↓ln_228, ↓rd_229, ↓wr_229, ↓ln_229, ↓rd_230, ↓wr_230, ↓ln_230, ↓rd_231, ↓wr_231, ↓ln_231, ↓rd_232, ↓wr_232, ↓ln_232, ↓rd_233, ↓wr_233, ↓ln_233, ↓rd_234, ↓wr_234, ↓ln_234, ↓rd_235, ↓wr_235, ↓ln_235, ↓rd_236, ↓wr_236, ↓ln_236, ↓rd_237, ↓wr_237, ↓ln_237, ↓rd_238, ↓wr_238, ↓ln_238, ↓rd_239, ↓wr_239, ↓ln_239, ↓rd_240, ↓wr_240, ↓ln_240, ↓rd_241, ↓wr_241, ↓ln_241, ↓rd_242, ↓wr_242, ↓ln_242, ↓rd_243, ↓wr_243, ↓ln_243, ↓gR_64_0, ↓gR_64_1, ↓gR_64_2, ↓gR_64_3, ↓gR_64_4, ↓gR_64_5, ↓gR_64_6, ↓gR_64_7, ↓gR_64_8, ↓gR_64_9, ↓gR_64_10, ↓gR_65_0, ↓gR_67_0, ↓gR_67_1, ↓gR_70_0, ↓gR_70_1, ↓gR_73_0, ↓gR_73_1, ↓gR_73_2, ↓gR_77_3, ↓gR_77_4, ↓gR_77_7, ↓gR_77_8, ↓gR_77_9, ↓gR_77_10, ↓gR_84_0, ↓gR_84_1, ↓gR_84_2, ↓gR_84_3, ↓gR_84_4, ↓gR_90_1, ↓gR_216_1, ↓gR_216_4, ↓gR_216_5, ↓gR_216_6, ↓gR_216_9, ↓gR_216_10, ↓gR_216_11, ↓gR_216_12, ↓gR_216_14, ↓gR_216_15, ↓gR_216_16, ↓gR_216_17, ↓gR_216_22, ↓gR_216_23, ↓gR_216_24, ↓gR_216_25, ↓gR_216_27, ↓gR_216_28, ↓gR_216_29, ↓gR_216_31, ↓gR_216_35, ↓gR_216_36, ↓gR_216_37, ↓gR_216_38, ↓gR_216_39, ↓gR_216_43, ↓gR_64_11, ↓gR_64_12, ↓gR_64_13, ↓gR_64_14, ↓gQ_65, ↓gI_A, ↓gL_A, ↓pI_A, ↓pL_A, ↓vv_A, ↓gI_Lw, ↓gL_Lw, ↓pI_Lw, ↓pL_Lw, ↓vv_Lw, ↓gR_A_7, ↓gR_A_8, ↓gR_A_9, ↓gR_A_10, ↓gR_A_11, ↓gR_A_12, ↓gR_A_13, ↓gR_A_14, ↓gR_A_15, ↓gR_A_16, ↓gR_A_17, ↓gR_Lw_0, ↓gR_Lw_1, ↓gR_Lw_2, ↓gR_Lw_3, ↓gR_Lw_4, ↓at_A1, ↓pt_A1, ↓at_A2, ↓pt_A2, ↓at_A3, ↓pt_A3, ↓at_A4, ↓pt_A4, ↓at_A5, ↓pt_A5, ↓at_A6, ↓pt_A6, ↓rd_A7, ↓wr_A7, ↓ln_A7, ↓rd_A8, ↓wr_A8, ↓ln_A8, ↓at_A9, ↓pt_A9, ↓at_A10, ↓pt_A10, ↓at_A12, ↓pt_A12, ↓at_A13, ↓pt_A13, ↓at_A14, ↓pt_A14, ↓at_A15, ↓pt_A15, ↓at_A16, ↓pt_A16, ↓gI_W, ↓gL_W, ↓pI_W, ↓pL_W, ↓vv_W, ↓gR_W_1, ↓gR_W_2, ↓gR_W_3, ↓gR_W_4, ↓at_W1, ↓pt_W1, ↓at_W2, ↓pt_W2, ↓at_W3, ↓pt_W3, ↓at_W4, ↓pt_W4, ↓rdR_92, ↓rdR_93, ↓rdR_94, ↓gI_S, ↓gL_S, ↓pI_S, ↓pL_S, ↓vv_S, ↓gR_S_0, ↓gR_S_1, ↓at_S1, ↓pt_S1, ↓at_S2, ↓pt_S2, ↓gI_N, ↓gL_N, ↓pI_N, ↓pL_N, ↓vv_N, ↓gR_N_0, ↓gR_N_1, ↓gR_N_2, ↓at_N1, ↓pt_N1, ↓at_N2, ↓pt_N2, ↓at_N3, ↓pt_N3, ↓pB_S, ↓pB_S0, ↓pB_S1, ↓pB_770, ↓pB_771, ↓at_6, ↓pt_6, ↓atN, ↓ptN, ↓cS, ↓bS, ↓zol, ↓zrb, ↓zrb0, ↓zrb1, ↓reduceIte, z32_s, z32_n, zb_test, zn_add, zn_mul, zn_addN, zn_sub, zU_ne, zU_eq, zU_at, zV_ne, zV_eq, zV_at, p_le, p_nle, p_lt, p_nlt, p_eq, p_neq, p_eqN, p_leN, p_ltN, p_Nle, p_Nlt, p_Neq, p_zt0, p_zt1, eq_self, Nat.reduceAdd, Nat.reduceMul, Nat.reduceSub, Nat.reduceEqDiff, Nat.reduceLT, Nat.reduceLeDiff, if_true, if_false, Bool.false_eq_true, not_true_eq_false, not_false_eq_true, reduceCtorEq]
      · rw [x3.1 (b + 3) (by simp only [List.mem_cons, List.not_mem_nil, or_false, not_or] <;> omega), hI2, zU_eq]
      · rw [x3.1 (b + 3) (by simp only [List.mem_cons, List.not_mem_nil, or_false, not_or] <;> omega), hI2, zU_ne2 hp, s3.1 (b + 3) (by simp only [List.mem_cons, List.not_mem_nil, or_false, not_or] <;> omega)]
end ZO
