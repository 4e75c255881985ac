/-! wars as told: the call -/
theorem zbn_inv {α β : Type} {x : Except Nat (List zTo × α)} {f : List zTo → α → Except Nat (List zTo × β)} {p : List zTo × β} (h : zbn x f = .ok p) : ∃ L y, x = .ok (L, y) ∧ f L y = .ok p := by
  cases x with
  | error F => cases h
  | ok z => exact ⟨z.1, z.2, rfl, h⟩
theorem znb_inv {N lo hi : Nat} {L L' : List zTo} {x : Nat} (h : znb N lo hi L = .ok (L', x)) : lo ≤ x ∧ x ≤ hi ∧ L' = L.tail ∧ L ≠ [] := by
  unfold znb at h
  cases hz : zNub L with
  | none => rw [hz] at h; cases h
  | some y =>
    rw [hz] at h
    dsimp only at h
    by_cases c : lo ≤ y ∧ y ≤ hi
    · rw [if_pos c] at h
      cases h
      exact ⟨c.1, c.2, rfl, fun q => by rw [q] at hz; cases hz⟩
    · rw [if_neg c] at h; cases h
theorem zwq_inv {N u : Nat} {L L' : List zTo} {x : Nat} (h : zwq N u L = .ok (L', x)) : zwh L u = some x ∧ L' = L.tail ∧ L ≠ [] := by
  unfold zwq at h
  cases hz : zwh L u with
  | none => rw [hz] at h; cases h
  | some y =>
    rw [hz] at h
    cases h
    exact ⟨rfl, rfl, fun q => by rw [q] at hz; cases hz⟩
theorem zwh_34 {L : List zTo} {k : Nat} : (zwh L 3 = some k → k < 3) ∧ (zwh L 4 = some k → k < 4) ∧ (zwh L 1 = some k → k < 7) := by
  have k3 : ∀ i, i < 36 → (zuL.getD i 0 = 3 → zhL.getD i 0 < 3) ∧ (zuL.getD i 0 = 4 → zhL.getD i 0 < 4) ∧ (zuL.getD i 0 = 1 → zhL.getD i 0 < 7) := by decide +kernel
  have key : ∀ u, zwh L u = some k → ∃ i, i < 36 ∧ zuL.getD i 0 = u ∧ zhL.getD i 0 = k := by
    intro u h
    unfold zwh at h
    cases hz : zws L with
    | none => rw [hz] at h; cases h
    | some i =>
      rw [hz] at h
      dsimp only at h
      by_cases c : zuL.getD i 0 = u
      · rw [if_pos c] at h
        exact ⟨i, zws_lt hz, c, Option.some.inj h⟩
      · rw [if_neg c] at h; cases h
  refine ⟨fun h => ?_, fun h => ?_, fun h => ?_⟩
  · obtain ⟨i, h1, h2, h3⟩ := key 3 h
    have := (k3 i h1).1 h2
    omega
  · obtain ⟨i, h1, h2, h3⟩ := key 4 h
    have := (k3 i h1).2.1 h2
    omega
  · obtain ⟨i, h1, h2, h3⟩ := key 1 h
    have := (k3 i h1).2.2 h2
    omega
theorem zwm_inv {A : zA} {Q : zQs} (hw : zAw A) (hQ : zQw A Q) {N : Nat} {x : Option Nat} {L L' : List zTo} {m : Nat} (h : zwm Q N x L = .ok (L', m)) : m < aM A ∧ some m ≠ x := by
  unfold zwm at h
  split at h
  · cases hz : zmn Q (zPay L) with
    | none => rw [hz] at h; cases h
    | some y =>
      rw [hz] at h
      dsimp only at h
      by_cases c : some y = x
      · rw [if_pos c] at h; cases h
      · rw [if_neg c] at h
        cases h
        refine ⟨?_, c⟩
        rcases (hQ.2.1 _ (zmn_s hz).1).2 with g | ⟨m', g1, g2⟩
        · have g' : 20 + m < aP A := g
          have := hw.1
          omega
        · have g' : 20 + m = 20 + m' := g2
          omega
  · cases h
theorem zwr_w {A : zA} {Q : zQs} (hw : zAw A) (hQ : zQw A Q) {N ty : Nat} (hty : ty < 4) {L L' : List zTo} {l : zLn} (h : zwr Q N ty L = .ok (L', l)) : zLw A l := by
  unfold zwr at h
  by_cases c1 : ty = 1
  · rw [if_pos c1] at h
    obtain ⟨L1, m1, a1, h⟩ := zbn_inv h
    obtain ⟨L2, m2, a2, h⟩ := zbn_inv h
    obtain ⟨L3, c, a3, h⟩ := zbn_inv h
    cases h
    have b1 := zwm_inv hw hQ a1
    have b2 := zwm_inv hw hQ a2
    have b3 := znb_inv a3
    exact Or.inr (Or.inl ⟨rfl, b1.1, b2.1, fun q => b2.2 (congrArg some (show m2 = m1 from q.symm)), b3.2.1⟩)
  · rw [if_neg c1] at h
    by_cases c0 : ty = 0
    · rw [if_pos c0] at h
      obtain ⟨L1, m1, a1, h⟩ := zbn_inv h
      cases h
      exact Or.inl ⟨rfl, (znb_inv a1).2.1⟩
    · rw [if_neg c0] at h
      by_cases c2 : ty = 2
      · rw [if_pos c2] at h
        obtain ⟨L1, m1, a1, h⟩ := zbn_inv h
        cases h
        exact Or.inr (Or.inr (Or.inl ⟨rfl, zwh_34.1 (zwq_inv a1).1⟩))
      · rw [if_neg c2] at h
        obtain ⟨L1, m1, a1, h⟩ := zbn_inv h
        cases h
        exact Or.inr (Or.inr (Or.inr ⟨rfl, (znb_inv a1).1, (znb_inv a1).2.1⟩))
theorem zwh2_4 {L : List zTo} {k : Nat} (hz : zwh L 2 = some k) : k < 4 := by
  have key : ∀ i, i < 36 → zuL.getD i 0 = 2 → zhL.getD i 0 < 4 := by decide +kernel
  unfold zwh at hz
  cases hz2 : zws L with
  | none => rw [hz2] at hz; cases hz
  | some i =>
    rw [hz2] at hz
    dsimp only at hz
    by_cases c : zuL.getD i 0 = 2
    · rw [if_pos c] at hz
      have := key i (zws_lt hz2) c
      have := Option.some.inj hz
      omega
    · rw [if_neg c] at hz; cases hz
theorem zwlp_w {A : zA} {Q : zQs} (hw : zAw A) (hQ : zQw A Q) {N : Nat} : ∀ f n L W, zwlp Q N f n L = .ok W → ∀ l, l ∈ W → zLw A l := by
  intro f
  induction f with
  | zero => intro n L W h; cases h; intro l hl; cases hl
  | succ f ih =>
    intro n L W h l hl
    cases L with
    | nil => cases h; cases hl
    | cons t M =>
      have h' : (match zwli Q N n (t :: M) with | .error F => .error F | .ok p => match zwlp Q N f (n + 1) p.1 with | .error F => .error F | .ok W => .ok (p.2 :: W)) = Except.ok W := h
      cases hr : zwli Q N n (t :: M) with
      | error F => rw [hr] at h'; cases h'
      | ok p =>
        rw [hr] at h'
        dsimp only at h'
        cases hr2 : zwlp Q N f (n + 1) p.1 with
        | error F => rw [hr2] at h'; cases h'
        | ok W' =>
          rw [hr2] at h'
          have h2 : p.2 :: W' = W := by injection h'
          rw [← h2] at hl
          rcases List.mem_cons.mp hl with q | q
          · subst q
            unfold zwli at hr
            cases hz : zwh (t :: M) 2 with
            | none => rw [hz] at hr; cases hr
            | some ty =>
              rw [hz] at hr
              dsimp only at hr
              by_cases c24 : 24 ≤ n
              · rw [if_pos c24] at hr; cases hr
              · rw [if_neg c24] at hr
                obtain ⟨L1, y1, a1, a2⟩ := zbn_inv hr
                have hl1 : y1 = p.2 := by
                  cases c59 : zis L1 59 with
                  | true => rw [c59, if_pos rfl] at a2; cases a2; rfl
                  | false => rw [c59, if_neg (by decide)] at a2; cases a2
                rw [← hl1]
                exact zwr_w hw hQ (zwh2_4 hz) a1
          · exact ih (n + 1) p.1 W' hr2 l q
theorem zwlp_24 {Q : zQs} {N : Nat} : ∀ f n L W, zwlp Q N f n L = .ok W → W = [] ∨ n + W.length ≤ 24 := by
  intro f
  induction f with
  | zero => intro n L W h; cases h; exact Or.inl rfl
  | succ f ih =>
    intro n L W h
    cases L with
    | nil => cases h; exact Or.inl rfl
    | cons t M =>
      have h' : (match zwli Q N n (t :: M) with | .error F => .error F | .ok p => match zwlp Q N f (n + 1) p.1 with | .error F => .error F | .ok W => .ok (p.2 :: W)) = Except.ok W := h
      cases hr : zwli Q N n (t :: M) with
      | error F => rw [hr] at h'; cases h'
      | ok p =>
        rw [hr] at h'
        dsimp only at h'
        have hn : n < 24 := by
          unfold zwli at hr
          cases hz : zwh (t :: M) 2 with
          | none => rw [hz] at hr; cases hr
          | some ty =>
            rw [hz] at hr
            dsimp only at hr
            by_cases c24 : 24 ≤ n
            · rw [if_pos c24] at hr; cases hr
            · omega
        cases hr2 : zwlp Q N f (n + 1) p.1 with
        | error F => rw [hr2] at h'; cases h'
        | ok W' =>
          rw [hr2] at h'
          have h2 : p.2 :: W' = W := by injection h'
          rw [← h2]
          right
          rw [List.length_cons]
          rcases ih (n + 1) p.1 W' hr2 with q | q
          · rw [q]; show n + (0 + 1) ≤ 24; omega
          · omega
def xWr (X : zXs) (W : List zLn) : zXs := (xA X, xV X, xN X, xL X, xK X, W, [], xQ X)
theorem zTw_n : zTw [] := ⟨by decide, fun x hx => by cases hx⟩
section ZO
variable {sc : zX} {t : Nat} {X : zXs}
theorem zTq_n {I : zII} (h : I 216 2 = zn 0) : zTq I [] := ⟨h, (fun i x hx => by cases hx)⟩
theorem zTc_n {I : zII} (h : I 65 1 = zn 0) : zTc I [] := ⟨h, (fun i x hx => by cases hx)⟩
theorem mwar_e (hX : zXw t X) {I : zII} {J : zJJ} {r : zRr} (h : zRm X I J) : ∃ I' J', zRm (match zwlp (xQ X) (xT X).length 500 0 (ztp (xT X) 0) with | .ok W => xWr X W | .error _ => xTp X []) I' J' ∧ (∀ o, o < 216 → I' o = I o ∧ J' o = J o) ∧ zm_war sc 216 (zG I J r) = some (match zwlp (xQ X) (xT X).length 500 0 (ztp (xT X) 0) with | .ok _ => zn 0 | .error F => zn F, zG I' J' r) := by
  have hT := hX.2.2.2.2.2.2.1
  have hw := hX.1
  have hQ := hX.2.2.2.2.2.2.2
  have h1 := h.th hX (x := zn 0)
  have hlen := (ztp_g hT (xT X).length 0 (by omega)).2
  have hl := hT.1
  obtain ⟨I0, hI0⟩ : ∃ I0, I0 = zU I 216 0 (zn 0) := ⟨_, rfl⟩
  rw [← hI0] at h1
  obtain ⟨I1, J1, e1, s1, t1, f1, k1, j1⟩ := cutAll_e (sc := sc) (r := r) hT h1.2.2.2.2.2.2.1 h1.2.2.2.2.2.2.2.2
  rw [hI0] at e1
  have hq1 : zQm I1 J1 (xQ X) := by
    have := h1.2.2.2.2.2.2.2.1
    unfold zQm at *
    rw [k1 18 (by decide) (by decide) (by decide) (by decide), f1 227 (by simp only [List.mem_cons, List.not_mem_nil, or_false, not_or] <;> omega), j1 225 (by decide)]
    exact this
  obtain ⟨I2, n2, e2, f2, g2⟩ := mwar_l (sc := sc) (r := r) (J := J1) (N := (xT X).length) (K := ztp (xT X) 0) hw hQ 500 (ztp (xT X) 0) [] I1 zo_F (by omega) (by decide) ⟨0, s1, by rw [List.drop_zero]⟩ hq1 (fun i l hl => by cases hl) (by decide)
  have e0 : ([] : List zLn).length = 0 := rfl
  rw [e0] at e2 g2
  have hR2 : zRm (xTp X []) I2 J1 := h1.tp hX (fun k hk => by rw [f2.2.1 k (by omega) (by omega), k1 k (by omega) (by omega) (by omega) (by omega)]) (fun k _ => by rw [f2.1 222 (by simp only [List.mem_cons, List.not_mem_nil, or_false, not_or] <;> omega), f1 222 (by simp only [List.mem_cons, List.not_mem_nil, or_false, not_or] <;> omega)]) (fun k _ => by rw [f2.1 223 (by simp only [List.mem_cons, List.not_mem_nil, or_false, not_or] <;> omega), f1 223 (by simp only [List.mem_cons, List.not_mem_nil, or_false, not_or] <;> omega)]) (fun k _ => by rw [f2.1 224 (by simp only [List.mem_cons, List.not_mem_nil, or_false, not_or] <;> omega), f1 224 (by simp only [List.mem_cons, List.not_mem_nil, or_false, not_or] <;> omega)]) (by rw [f2.1 227 (by simp only [List.mem_cons, List.not_mem_nil, or_false, not_or] <;> omega), f1 227 (by simp only [List.mem_cons, List.not_mem_nil, or_false, not_or] <;> omega)]) (fun k hk => by rw [f2.2.2 k (by omega), f1 229 (by simp only [List.mem_cons, List.not_mem_nil, or_false, not_or] <;> omega)]) (fun k _ => by rw [f2.1 232 (by simp only [List.mem_cons, List.not_mem_nil, or_false, not_or] <;> omega), f1 232 (by simp only [List.mem_cons, List.not_mem_nil, or_false, not_or] <;> omega)]) (by rw [f2.1 233 (by simp only [List.mem_cons, List.not_mem_nil, or_false, not_or] <;> omega), f1 233 (by simp only [List.mem_cons, List.not_mem_nil, or_false, not_or] <;> omega)]) (j1 221 (by decide)) (j1 225 (by decide)) (zTq_n (by rw [f2.2.1 2 (by decide) (by decide)]; exact t1))
  have fo : ∀ o, o < 216 → I2 o = I o ∧ J1 o = J o := fun o ho => ⟨by rw [f2.1 o (by simp only [List.mem_cons, List.not_mem_nil, or_false, not_or] <;> omega), f1 o (by simp only [List.mem_cons, List.not_mem_nil, or_false, not_or] <;> omega), hI0, zU_ne (by omega)], j1 o (by omega)⟩
  cases hr : zwlp (xQ X) (xT X).length 500 0 (ztp (xT X) 0) with
  | error F =>
    rw [hr] at g2
    obtain ⟨g3, g4, g5⟩ := g2
    refine ⟨I2, J1, hR2, fo, ?_⟩
    rw [um_war]
    simp (disch := first | assumption | omega) only [↓zoc e1, ↓gI_64, ↓gL_64, ↓pI_64, ↓pL_64, ↓vv_64, ↓gI_65, ↓gL_65, ↓pI_65, ↓pL_65, ↓vv_65, ↓gI_67, ↓gL_67, ↓pI_67, ↓pL_67, ↓vv_67, ↓gI_70, ↓gL_70, ↓pI_70, ↓pL_70, ↓vv_70, ↓gI_73, ↓gL_73, ↓pI_73, ↓pL_73, ↓vv_73, ↓gI_77, ↓gL_77, ↓pI_77, ↓pL_77, ↓vv_77, ↓gI_84, ↓gL_84, ↓pI_84, ↓pL_84, ↓vv_84, ↓gI_90, ↓gL_90, ↓pI_90, ↓pL_90, ↓vv_90, ↓gI_216, ↓gL_216, ↓pI_216, ↓pL_216, ↓vv_216, ↓rd_66, ↓wr_66, ↓ln_66, ↓at_68, ↓pt_68, ↓at_69, ↓pt_69, ↓at_71, ↓pt_71, ↓at_72, ↓pt_72, ↓at_74, ↓pt_74, ↓at_75, ↓pt_75, ↓at_76, ↓pt_76, ↓at_78, ↓pt_78, ↓at_79, ↓pt_79, ↓at_80, ↓pt_80, ↓at_81, ↓pt_81, ↓at_82, ↓pt_82, ↓at_83, ↓pt_83, ↓at_85, ↓pt_85, ↓at_86, ↓pt_86, ↓at_87, ↓pt_87, ↓at_88, ↓pt_88, ↓at_89, ↓pt_89, ↓at_91, ↓pt_91, ↓at_95, ↓pt_95, ↓rd_217, ↓wr_217, ↓ln_217, ↓rd_218, ↓wr_218, ↓ln_218, ↓rd_219, ↓wr_219, ↓ln_219, ↓rd_220, ↓wr_220, ↓ln_220, ↓rd_221, ↓wr_221, ↓ln_221, ↓rd_222, ↓wr_222, ↓ln_222, ↓rd_223, ↓wr_223, ↓ln_223, ↓rd_224, ↓wr_224, ↓ln_224, ↓rd_225, ↓wr_225, ↓ln_225, ↓rd_226, ↓wr_226, ↓ln_226, ↓rd_227, ↓wr_227, ↓ln_227, ↓rd_228, ↓wr_228, ↓ln_228, ↓rd_229, ↓wr_229, ↓ln_229, ↓rd_230, ↓wr_230, ↓ln_230, ↓rd_231, ↓wr_231, ↓ln_231, ↓rd_232, ↓wr_232, ↓ln_232, ↓rd_233, ↓wr_233, ↓ln_233, ↓rd_234, ↓wr_234, ↓ln_234, ↓rd_235, ↓wr_235, ↓ln_235, ↓rd_236, ↓wr_236, ↓ln_236, ↓rd_237, ↓wr_237, ↓ln_237, ↓rd_238, ↓wr_238, ↓ln_238, ↓rd_239, ↓wr_239, ↓ln_239, ↓rd_240, ↓wr_240, ↓ln_240, ↓rd_241, ↓wr_241, ↓ln_241, ↓rd_242, ↓wr_242, ↓ln_242, ↓rd_243, ↓wr_243, ↓ln_243, ↓gR_64_0, ↓gR_64_1, ↓gR_64_2, ↓gR_64_3, ↓gR_64_4, ↓gR_64_5, ↓gR_64_6, ↓gR_64_7, ↓gR_64_8, ↓gR_64_9, ↓gR_64_10, ↓gR_65_0, ↓gR_67_0, ↓gR_67_1, ↓gR_70_0, ↓gR_70_1, ↓gR_73_0, ↓gR_73_1, ↓gR_73_2, ↓gR_77_3, ↓gR_77_4, ↓gR_77_7, ↓gR_77_8, ↓gR_77_9, ↓gR_77_10, ↓gR_84_0, ↓gR_84_1, ↓gR_84_2, ↓gR_84_3, ↓gR_84_4, ↓gR_90_1, ↓gR_216_1, ↓gR_216_4, ↓gR_216_5, ↓gR_216_6, ↓gR_216_9, ↓gR_216_10, ↓gR_216_11, ↓gR_216_12, ↓gR_216_14, ↓gR_216_15, ↓gR_216_16, ↓gR_216_17, ↓gR_216_22, ↓gR_216_23, ↓gR_216_24, ↓gR_216_25, ↓gR_216_27, ↓gR_216_28, ↓gR_216_29, ↓gR_216_31, ↓gR_216_35, ↓gR_216_36, ↓gR_216_37, ↓gR_216_38, ↓gR_216_39, ↓gR_216_43, ↓gR_64_11, ↓gR_64_12, ↓gR_64_13, ↓gR_64_14, ↓gQ_65, ↓gI_A, ↓gL_A, ↓pI_A, ↓pL_A, ↓vv_A, ↓gI_Lw, ↓gL_Lw, ↓pI_Lw, ↓pL_Lw, ↓vv_Lw, ↓gR_A_7, ↓gR_A_8, ↓gR_A_9, ↓gR_A_10, ↓gR_A_11, ↓gR_A_12, ↓gR_A_13, ↓gR_A_14, ↓gR_A_15, ↓gR_A_16, ↓gR_A_17, ↓gR_Lw_0, ↓gR_Lw_1, ↓gR_Lw_2, ↓gR_Lw_3, ↓gR_Lw_4, ↓at_A1, ↓pt_A1, ↓at_A2, ↓pt_A2, ↓at_A3, ↓pt_A3, ↓at_A4, ↓pt_A4, ↓at_A5, ↓pt_A5, ↓at_A6, ↓pt_A6, ↓rd_A7, ↓wr_A7, ↓ln_A7, ↓rd_A8, ↓wr_A8, ↓ln_A8, ↓at_A9, ↓pt_A9, ↓at_A10, ↓pt_A10, ↓at_A12, ↓pt_A12, ↓at_A13, ↓pt_A13, ↓at_A14, ↓pt_A14, ↓at_A15, ↓pt_A15, ↓at_A16, ↓pt_A16, ↓gI_W, ↓gL_W, ↓pI_W, ↓pL_W, ↓vv_W, ↓gR_W_1, ↓gR_W_2, ↓gR_W_3, ↓gR_W_4, ↓at_W1, ↓pt_W1, ↓at_W2, ↓pt_W2, ↓at_W3, ↓pt_W3, ↓at_W4, ↓pt_W4, ↓rdR_92, ↓rdR_93, ↓rdR_94, ↓gI_S, ↓gL_S, ↓pI_S, ↓pL_S, ↓vv_S, ↓gR_S_0, ↓gR_S_1, ↓at_S1, ↓pt_S1, ↓at_S2, ↓pt_S2, ↓gI_N, ↓gL_N, ↓pI_N, ↓pL_N, ↓vv_N, ↓gR_N_0, ↓gR_N_1, ↓gR_N_2, ↓at_N1, ↓pt_N1, ↓at_N2, ↓pt_N2, ↓at_N3, ↓pt_N3, ↓pB_S, ↓pB_S0, ↓pB_S1, ↓pB_770, ↓pB_771, ↓at_6, ↓pt_6, ↓atN, ↓ptN, ↓cS, ↓bS, ↓zol, ↓zrb, ↓zrb0, ↓zrb1, ↓reduceIte, z32_s, z32_n, zb_test, zn_add, zn_mul, zn_addN, zn_sub, zU_ne, zU_eq, zU_at, zV_ne, zV_eq, zV_at, p_le, p_nle, p_lt, p_nlt, p_eq, p_neq, p_eqN, p_leN, p_ltN, p_Nle, p_Nlt, p_Neq, p_zt0, p_zt1, eq_self, Nat.reduceAdd, Nat.reduceMul, Nat.reduceSub, Nat.reduceEqDiff, Nat.reduceLT, Nat.reduceLeDiff, if_true, if_false, Bool.false_eq_true, not_true_eq_false, not_false_eq_true, reduceCtorEq]
    rw [e2]
    (try dsimp only)
    simp (disch := first | assumption | omega) only [g3, ↓gI_64, ↓gL_64, ↓pI_64, ↓pL_64, ↓vv_64, ↓gI_65, ↓gL_65, ↓pI_65, ↓pL_65, ↓vv_65, ↓gI_67, ↓gL_67, ↓pI_67, ↓pL_67, ↓vv_67, ↓gI_70, ↓gL_70, ↓pI_70, ↓pL_70, ↓vv_70, ↓gI_73, ↓gL_73, ↓pI_73, ↓pL_73, ↓vv_73, ↓gI_77, ↓gL_77, ↓pI_77, ↓pL_77, ↓vv_77, ↓gI_84, ↓gL_84, ↓pI_84, ↓pL_84, ↓vv_84, ↓gI_90, ↓gL_90, ↓pI_90, ↓pL_90, ↓vv_90, ↓gI_216, ↓gL_216, ↓pI_216, ↓pL_216, ↓vv_216, ↓rd_66, ↓wr_66, ↓ln_66, ↓at_68, ↓pt_68, ↓at_69, ↓pt_69, ↓at_71, ↓pt_71, ↓at_72, ↓pt_72, ↓at_74, ↓pt_74, ↓at_75, ↓pt_75, ↓at_76, ↓pt_76, ↓at_78, ↓pt_78, ↓at_79, ↓pt_79, ↓at_80, ↓pt_80, ↓at_81, ↓pt_81, ↓at_82, ↓pt_82, ↓at_83, ↓pt_83, ↓at_85, ↓pt_85, ↓at_86, ↓pt_86, ↓at_87, ↓pt_87, ↓at_88, ↓pt_88, ↓at_89, ↓pt_89, ↓at_91, ↓pt_91, ↓at_95, ↓pt_95, ↓rd_217, ↓wr_217, ↓ln_217, ↓rd_218, ↓wr_218, ↓ln_218, ↓rd_219, ↓wr_219, ↓ln_219, ↓rd_220, ↓wr_220, ↓ln_220, ↓rd_221, ↓wr_221, ↓ln_221, ↓rd_222, ↓wr_222, ↓ln_222, ↓rd_223, ↓wr_223, ↓ln_223, ↓rd_224, ↓wr_224, ↓ln_224, ↓rd_225, ↓wr_225, ↓ln_225, ↓rd_226, ↓wr_226, ↓ln_226, ↓rd_227, ↓wr_227, ↓ln_227, ↓rd_228, ↓wr_228, ↓ln_228, ↓rd_229, ↓wr_229, ↓ln_229, ↓rd_230, ↓wr_230, ↓ln_230, ↓rd_231, ↓wr_231, ↓ln_231, ↓rd_232, ↓wr_232, ↓ln_232, ↓rd_233, ↓wr_233, ↓ln_233, ↓rd_234, ↓wr_234, ↓ln_234, ↓rd_235, ↓wr_235, ↓ln_235, ↓rd_236, ↓wr_236, ↓ln_236, ↓rd_237, ↓wr_237, ↓ln_237, ↓rd_238, ↓wr_238, ↓ln_238, ↓rd_239, ↓wr_239, ↓ln_239, ↓rd_240, ↓wr_240, ↓ln_240, ↓rd_241, ↓wr_241, ↓ln_241, ↓rd_242, ↓wr_242, ↓ln_242, ↓rd_243, ↓wr_243, ↓ln_243, ↓gR_64_0, ↓gR_64_1, ↓gR_64_2, ↓gR_64_3, ↓gR_64_4, ↓gR_64_5, ↓gR_64_6, ↓gR_64_7, ↓gR_64_8, ↓gR_64_9, ↓gR_64_10, ↓gR_65_0, ↓gR_67_0, ↓gR_67_1, ↓gR_70_0, ↓gR_70_1, ↓gR_73_0, ↓gR_73_1, ↓gR_73_2, ↓gR_77_3, ↓gR_77_4, ↓gR_77_7, ↓gR_77_8, ↓gR_77_9, ↓gR_77_10, ↓gR_84_0, ↓gR_84_1, ↓gR_84_2, ↓gR_84_3, ↓gR_84_4, ↓gR_90_1, ↓gR_216_1, ↓gR_216_4, ↓gR_216_5, ↓gR_216_6, ↓gR_216_9, ↓gR_216_10, ↓gR_216_11, ↓gR_216_12, ↓gR_216_14, ↓gR_216_15, ↓gR_216_16, ↓gR_216_17, ↓gR_216_22, ↓gR_216_23, ↓gR_216_24, ↓gR_216_25, ↓gR_216_27, ↓gR_216_28, ↓gR_216_29, ↓gR_216_31, ↓gR_216_35, ↓gR_216_36, ↓gR_216_37, ↓gR_216_38, ↓gR_216_39, ↓gR_216_43, ↓gR_64_11, ↓gR_64_12, ↓gR_64_13, ↓gR_64_14, ↓gQ_65, ↓gI_A, ↓gL_A, ↓pI_A, ↓pL_A, ↓vv_A, ↓gI_Lw, ↓gL_Lw, ↓pI_Lw, ↓pL_Lw, ↓vv_Lw, ↓gR_A_7, ↓gR_A_8, ↓gR_A_9, ↓gR_A_10, ↓gR_A_11, ↓gR_A_12, ↓gR_A_13, ↓gR_A_14, ↓gR_A_15, ↓gR_A_16, ↓gR_A_17, ↓gR_Lw_0, ↓gR_Lw_1, ↓gR_Lw_2, ↓gR_Lw_3, ↓gR_Lw_4, ↓at_A1, ↓pt_A1, ↓at_A2, ↓pt_A2, ↓at_A3, ↓pt_A3, ↓at_A4, ↓pt_A4, ↓at_A5, ↓pt_A5, ↓at_A6, ↓pt_A6, ↓rd_A7, ↓wr_A7, ↓ln_A7, ↓rd_A8, ↓wr_A8, ↓ln_A8, ↓at_A9, ↓pt_A9, ↓at_A10, ↓pt_A10, ↓at_A12, ↓pt_A12, ↓at_A13, ↓pt_A13, ↓at_A14, ↓pt_A14, ↓at_A15, ↓pt_A15, ↓at_A16, ↓pt_A16, ↓gI_W, ↓gL_W, ↓pI_W, ↓pL_W, ↓vv_W, ↓gR_W_1, ↓gR_W_2, ↓gR_W_3, ↓gR_W_4, ↓at_W1, ↓pt_W1, ↓at_W2, ↓pt_W2, ↓at_W3, ↓pt_W3, ↓at_W4, ↓pt_W4, ↓rdR_92, ↓rdR_93, ↓rdR_94, ↓gI_S, ↓gL_S, ↓pI_S, ↓pL_S, ↓vv_S, ↓gR_S_0, ↓gR_S_1, ↓at_S1, ↓pt_S1, ↓at_S2, ↓pt_S2, ↓gI_N, ↓gL_N, ↓pI_N, ↓pL_N, ↓vv_N, ↓gR_N_0, ↓gR_N_1, ↓gR_N_2, ↓at_N1, ↓pt_N1, ↓at_N2, ↓pt_N2, ↓at_N3, ↓pt_N3, ↓pB_S, ↓pB_S0, ↓pB_S1, ↓pB_770, ↓pB_771, ↓at_6, ↓pt_6, ↓atN, ↓ptN, ↓cS, ↓bS, ↓zol, ↓zrb, ↓zrb0, ↓zrb1, ↓reduceIte, z32_s, z32_n, zb_test, zn_add, zn_mul, zn_addN, zn_sub, zU_ne, zU_eq, zU_at, zV_ne, zV_eq, zV_at, p_le, p_nle, p_lt, p_nlt, p_eq, p_neq, p_eqN, p_leN, p_ltN, p_Nle, p_Nlt, p_Neq, p_zt0, p_zt1, eq_self, Nat.reduceAdd, Nat.reduceMul, Nat.reduceSub, Nat.reduceEqDiff, Nat.reduceLT, Nat.reduceLeDiff, if_true, if_false, Bool.false_eq_true, not_true_eq_false, not_false_eq_true, reduceCtorEq]
  | ok W =>
    rw [hr] at g2
    obtain ⟨g3, g4, g5, g6⟩ := g2
    rw [List.nil_append] at g3 g5 g6
    subst g3
    obtain ⟨I3, hI3⟩ : ∃ I3, I3 = zU I2 229 0 (zn W.length) := ⟨_, rfl⟩
    have f3 : zFr [229] I2 I3 := by rw [hI3]; exact (zFr.refl _ I2).u (by simp only [List.mem_cons, List.not_mem_nil, or_false, true_or, or_true] <;> omega)
    obtain ⟨I4, e4, g7, f4⟩ := mwar_c (sc := sc) (J := J1) (r := r) (I := I3) (W := W) (fun i l hl => by rw [hI3, zU_ne2 (by omega), zU_ne2 (by omega), zU_ne2 (by omega), zU_ne2 (by omega)]; exact g5 i l hl) g6 (by rw [hI3, zU_eq])
    rw [hI3] at e4
    have f34 : zFr [229] I2 I4 := f3.tr f4
    refine ⟨I4, J1, ?_, fun o ho => ⟨by rw [f34 o (by simp only [List.mem_cons, List.not_mem_nil, or_false, not_or] <;> omega)]; exact (fo o ho).1, (fo o ho).2⟩, ?_⟩
    · obtain ⟨r1, r2, r3, r4, r5, r6, r7, r8, r9⟩ := hR2
      have q216 : I4 216 = I2 216 := f34 216 (by simp only [List.mem_cons, List.not_mem_nil, or_false, not_or] <;> omega)
      have q232 : I4 232 = I2 232 := f34 232 (by simp only [List.mem_cons, List.not_mem_nil, or_false, not_or] <;> omega)
      refine ⟨r1.fr (f34 222 (by simp only [List.mem_cons, List.not_mem_nil, or_false, not_or] <;> omega)) (f34 223 (by simp only [List.mem_cons, List.not_mem_nil, or_false, not_or] <;> omega)) (f34 224 (by simp only [List.mem_cons, List.not_mem_nil, or_false, not_or] <;> omega)), r2.fr q232, ?_, ⟨?_, fun i V hV => (r4.2 i V hV).fr q232⟩, ⟨fun m hm => ?_, fun m V N hm hK => ?_⟩, g7, zTq_n (by rw [q216]; exact r7.1), ?_, r9⟩
      · have hN := hX.2.2.1
        exact r3.fr hN.1 hN.2.1 (fun k _ _ => by rw [q232])
      · rw [q216]; exact r4.1
      · rw [f34 233 (by simp only [List.mem_cons, List.not_mem_nil, or_false, not_or] <;> omega)]; exact r5.1 m hm
      · have hN := (hX.2.2.2.2.1 m V N hK).2
        obtain ⟨q1, q2⟩ := r5.2 m V N hm hK
        exact ⟨q1.fr q232, q2.fr hN.1 hN.2.1 (fun k _ _ => by rw [q232])⟩
      · unfold zQm at *
        rw [q216, f34 227 (by simp only [List.mem_cons, List.not_mem_nil, or_false, not_or] <;> omega)]
        exact r8
    · rw [um_war]
      simp (disch := first | assumption | omega) only [↓zoc e1, ↓gI_64, ↓gL_64, ↓pI_64, ↓pL_64, ↓vv_64, ↓gI_65, ↓gL_65, ↓pI_65, ↓pL_65, ↓vv_65, ↓gI_67, ↓gL_67, ↓pI_67, ↓pL_67, ↓vv_67, ↓gI_70, ↓gL_70, ↓pI_70, ↓pL_70, ↓vv_70, ↓gI_73, ↓gL_73, ↓pI_73, ↓pL_73, ↓vv_73, ↓gI_77, ↓gL_77, ↓pI_77, ↓pL_77, ↓vv_77, ↓gI_84, ↓gL_84, ↓pI_84, ↓pL_84, ↓vv_84, ↓gI_90, ↓gL_90, ↓pI_90, ↓pL_90, ↓vv_90, ↓gI_216, ↓gL_216, ↓pI_216, ↓pL_216, ↓vv_216, ↓rd_66, ↓wr_66, ↓ln_66, ↓at_68, ↓pt_68, ↓at_69, ↓pt_69, ↓at_71, ↓pt_71, ↓at_72, ↓pt_72, ↓at_74, ↓pt_74, ↓at_75, ↓pt_75, ↓at_76, ↓pt_76, ↓at_78, ↓pt_78, ↓at_79, ↓pt_79, ↓at_80, ↓pt_80, ↓at_81, ↓pt_81, ↓at_82, ↓pt_82, ↓at_83, ↓pt_83, ↓at_85, ↓pt_85, ↓at_86, ↓pt_86, ↓at_87, ↓pt_87, ↓at_88, ↓pt_88, ↓at_89, ↓pt_89, ↓at_91, ↓pt_91, ↓at_95, ↓pt_95, ↓rd_217, ↓wr_217, ↓ln_217, ↓rd_218, ↓wr_218, ↓ln_218, ↓rd_219, ↓wr_219, ↓ln_219, ↓rd_220, ↓wr_220, ↓ln_220, ↓rd_221, ↓wr_221, ↓ln_221, ↓rd_222, ↓wr_222, ↓ln_222, ↓rd_223, ↓wr_223, ↓ln_223, ↓rd_224, ↓wr_224, ↓ln_224, ↓rd_225, ↓wr_225, ↓ln_225, ↓rd_226, ↓wr_226, ↓ln_226, ↓rd_227, ↓wr_227, ↓ln_227, ↓rd_228, ↓wr_228, ↓ln_228, ↓rd_229, ↓wr_229, ↓ln_229, ↓rd_230, ↓wr_230, ↓ln_230, ↓rd_231, ↓wr_231, ↓ln_231, ↓rd_232, ↓wr_232, ↓ln_232, ↓rd_233, ↓wr_233, ↓ln_233, ↓rd_234, ↓wr_234, ↓ln_234, ↓rd_235, ↓wr_235, ↓ln_235, ↓rd_236, ↓wr_236, ↓ln_236, ↓rd_237, ↓wr_237, ↓ln_237, ↓rd_238, ↓wr_238, ↓ln_238, ↓rd_239, ↓wr_239, ↓ln_239, ↓rd_240, ↓wr_240, ↓ln_240, ↓rd_241, ↓wr_241, ↓ln_241, ↓rd_242, ↓wr_242, ↓ln_242, ↓rd_243, ↓wr_243, ↓ln_243, ↓gR_64_0, ↓gR_64_1, ↓gR_64_2, ↓gR_64_3, ↓gR_64_4, ↓gR_64_5, ↓gR_64_6, ↓gR_64_7, ↓gR_64_8, ↓gR_64_9, ↓gR_64_10, ↓gR_65_0, ↓gR_67_0, ↓gR_67_1, ↓gR_70_0, ↓gR_70_1, ↓gR_73_0, ↓gR_73_1, ↓gR_73_2, ↓gR_77_3, ↓gR_77_4, ↓gR_77_7, ↓gR_77_8, ↓gR_77_9, ↓gR_77_10, ↓gR_84_0, ↓gR_84_1, ↓gR_84_2, ↓gR_84_3, ↓gR_84_4, ↓gR_90_1, ↓gR_216_1, ↓gR_216_4, ↓gR_216_5, ↓gR_216_6, ↓gR_216_9, ↓gR_216_10, ↓gR_216_11, ↓gR_216_12, ↓gR_216_14, ↓gR_216_15, ↓gR_216_16, ↓gR_216_17, ↓gR_216_22, ↓gR_216_23, ↓gR_216_24, ↓gR_216_25, ↓gR_216_27, ↓gR_216_28, ↓gR_216_29, ↓gR_216_31, ↓gR_216_35, ↓gR_216_36, ↓gR_216_37, ↓gR_216_38, ↓gR_216_39, ↓gR_216_43, ↓gR_64_11, ↓gR_64_12, ↓gR_64_13, ↓gR_64_14, ↓gQ_65, ↓gI_A, ↓gL_A, ↓pI_A, ↓pL_A, ↓vv_A, ↓gI_Lw, ↓gL_Lw, ↓pI_Lw, ↓pL_Lw, ↓vv_Lw, ↓gR_A_7, ↓gR_A_8, ↓gR_A_9, ↓gR_A_10, ↓gR_A_11, ↓gR_A_12, ↓gR_A_13, ↓gR_A_14, ↓gR_A_15, ↓gR_A_16, ↓gR_A_17, ↓gR_Lw_0, ↓gR_Lw_1, ↓gR_Lw_2, ↓gR_Lw_3, ↓gR_Lw_4, ↓at_A1, ↓pt_A1, ↓at_A2, ↓pt_A2, ↓at_A3, ↓pt_A3, ↓at_A4, ↓pt_A4, ↓at_A5, ↓pt_A5, ↓at_A6, ↓pt_A6, ↓rd_A7, ↓wr_A7, ↓ln_A7, ↓rd_A8, ↓wr_A8, ↓ln_A8, ↓at_A9, ↓pt_A9, ↓at_A10, ↓pt_A10, ↓at_A12, ↓pt_A12, ↓at_A13, ↓pt_A13, ↓at_A14, ↓pt_A14, ↓at_A15, ↓pt_A15, ↓at_A16, ↓pt_A16, ↓gI_W, ↓gL_W, ↓pI_W, ↓pL_W, ↓vv_W, ↓gR_W_1, ↓gR_W_2, ↓gR_W_3, ↓gR_W_4, ↓at_W1, ↓pt_W1, ↓at_W2, ↓pt_W2, ↓at_W3, ↓pt_W3, ↓at_W4, ↓pt_W4, ↓rdR_92, ↓rdR_93, ↓rdR_94, ↓gI_S, ↓gL_S, ↓pI_S, ↓pL_S, ↓vv_S, ↓gR_S_0, ↓gR_S_1, ↓at_S1, ↓pt_S1, ↓at_S2, ↓pt_S2, ↓gI_N, ↓gL_N, ↓pI_N, ↓pL_N, ↓vv_N, ↓gR_N_0, ↓gR_N_1, ↓gR_N_2, ↓at_N1, ↓pt_N1, ↓at_N2, ↓pt_N2, ↓at_N3, ↓pt_N3, ↓pB_S, ↓pB_S0, ↓pB_S1, ↓pB_770, ↓pB_771, ↓at_6, ↓pt_6, ↓atN, ↓ptN, ↓cS, ↓bS, ↓zol, ↓zrb, ↓zrb0, ↓zrb1, ↓reduceIte, z32_s, z32_n, zb_test, zn_add, zn_mul, zn_addN, zn_sub, zU_ne, zU_eq, zU_at, zV_ne, zV_eq, zV_at, p_le, p_nle, p_lt, p_nlt, p_eq, p_neq, p_eqN, p_leN, p_ltN, p_Nle, p_Nlt, p_Neq, p_zt0, p_zt1, eq_self, Nat.reduceAdd, Nat.reduceMul, Nat.reduceSub, Nat.reduceEqDiff, Nat.reduceLT, Nat.reduceLeDiff, if_true, if_false, Bool.false_eq_true, not_true_eq_false, not_false_eq_true, reduceCtorEq]
      rw [e2]
      (try dsimp only)
      simp (disch := first | assumption | omega) only [g4, ↓gI_64, ↓gL_64, ↓pI_64, ↓pL_64, ↓vv_64, ↓gI_65, ↓gL_65, ↓pI_65, ↓pL_65, ↓vv_65, ↓gI_67, ↓gL_67, ↓pI_67, ↓pL_67, ↓vv_67, ↓gI_70, ↓gL_70, ↓pI_70, ↓pL_70, ↓vv_70, ↓gI_73, ↓gL_73, ↓pI_73, ↓pL_73, ↓vv_73, ↓gI_77, ↓gL_77, ↓pI_77, ↓pL_77, ↓vv_77, ↓gI_84, ↓gL_84, ↓pI_84, ↓pL_84, ↓vv_84, ↓gI_90, ↓gL_90, ↓pI_90, ↓pL_90, ↓vv_90, ↓gI_216, ↓gL_216, ↓pI_216, ↓pL_216, ↓vv_216, ↓rd_66, ↓wr_66, ↓ln_66, ↓at_68, ↓pt_68, ↓at_69, ↓pt_69, ↓at_71, ↓pt_71, ↓at_72, ↓pt_72, ↓at_74, ↓pt_74, ↓at_75, ↓pt_75, ↓at_76, ↓pt_76, ↓at_78, ↓pt_78, ↓at_79, ↓pt_79, ↓at_80, ↓pt_80, ↓at_81, ↓pt_81, ↓at_82, ↓pt_82, ↓at_83, ↓pt_83, ↓at_85, ↓pt_85, ↓at_86, ↓pt_86, ↓at_87, ↓pt_87, ↓at_88, ↓pt_88, ↓at_89, ↓pt_89, ↓at_91, ↓pt_91, ↓at_95, ↓pt_95, ↓rd_217, ↓wr_217, ↓ln_217, ↓rd_218, ↓wr_218, ↓ln_218, ↓rd_219, ↓wr_219, ↓ln_219, ↓rd_220, ↓wr_220, ↓ln_220, ↓rd_221, ↓wr_221, ↓ln_221, ↓rd_222, ↓wr_222, ↓ln_222, ↓rd_223, ↓wr_223, ↓ln_223, ↓rd_224, ↓wr_224, ↓ln_224, ↓rd_225, ↓wr_225, ↓ln_225, ↓rd_226, ↓wr_226, ↓ln_226, ↓rd_227, ↓wr_227, ↓ln_227, ↓rd_228, ↓wr_228, ↓ln_228, ↓rd_229, ↓wr_229, ↓ln_229, ↓rd_230, ↓wr_230, ↓ln_230, ↓rd_231, ↓wr_231, ↓ln_231, ↓rd_232, ↓wr_232, ↓ln_232, ↓rd_233, ↓wr_233, ↓ln_233, ↓rd_234, ↓wr_234, ↓ln_234, ↓rd_235, ↓wr_235, ↓ln_235, ↓rd_236, ↓wr_236, ↓ln_236, ↓rd_237, ↓wr_237, ↓ln_237, ↓rd_238, ↓wr_238, ↓ln_238, ↓rd_239, ↓wr_239, ↓ln_239, ↓rd_240, ↓wr_240, ↓ln_240, ↓rd_241, ↓wr_241, ↓ln_241, ↓rd_242, ↓wr_242, ↓ln_242, ↓rd_243, ↓wr_243, ↓ln_243, ↓gR_64_0, ↓gR_64_1, ↓gR_64_2, ↓gR_64_3, ↓gR_64_4, ↓gR_64_5, ↓gR_64_6, ↓gR_64_7, ↓gR_64_8, ↓gR_64_9, ↓gR_64_10, ↓gR_65_0, ↓gR_67_0, ↓gR_67_1, ↓gR_70_0, ↓gR_70_1, ↓gR_73_0, ↓gR_73_1, ↓gR_73_2, ↓gR_77_3, ↓gR_77_4, ↓gR_77_7, ↓gR_77_8, ↓gR_77_9, ↓gR_77_10, ↓gR_84_0, ↓gR_84_1, ↓gR_84_2, ↓gR_84_3, ↓gR_84_4, ↓gR_90_1, ↓gR_216_1, ↓gR_216_4, ↓gR_216_5, ↓gR_216_6, ↓gR_216_9, ↓gR_216_10, ↓gR_216_11, ↓gR_216_12, ↓gR_216_14, ↓gR_216_15, ↓gR_216_16, ↓gR_216_17, ↓gR_216_22, ↓gR_216_23, ↓gR_216_24, ↓gR_216_25, ↓gR_216_27, ↓gR_216_28, ↓gR_216_29, ↓gR_216_31, ↓gR_216_35, ↓gR_216_36, ↓gR_216_37, ↓gR_216_38, ↓gR_216_39, ↓gR_216_43, ↓gR_64_11, ↓gR_64_12, ↓gR_64_13, ↓gR_64_14, ↓gQ_65, ↓gI_A, ↓gL_A, ↓pI_A, ↓pL_A, ↓vv_A, ↓gI_Lw, ↓gL_Lw, ↓pI_Lw, ↓pL_Lw, ↓vv_Lw, ↓gR_A_7, ↓gR_A_8, ↓gR_A_9, ↓gR_A_10, ↓gR_A_11, ↓gR_A_12, ↓gR_A_13, ↓gR_A_14, ↓gR_A_15, ↓gR_A_16, ↓gR_A_17, ↓gR_Lw_0, ↓gR_Lw_1, ↓gR_Lw_2, ↓gR_Lw_3, ↓gR_Lw_4, ↓at_A1, ↓pt_A1, ↓at_A2, ↓pt_A2, ↓at_A3, ↓pt_A3, ↓at_A4, ↓pt_A4, ↓at_A5, ↓pt_A5, ↓at_A6, ↓pt_A6, ↓rd_A7, ↓wr_A7, ↓ln_A7, ↓rd_A8, ↓wr_A8, ↓ln_A8, ↓at_A9, ↓pt_A9, ↓at_A10, ↓pt_A10, ↓at_A12, ↓pt_A12, ↓at_A13, ↓pt_A13, ↓at_A14, ↓pt_A14, ↓at_A15, ↓pt_A15, ↓at_A16, ↓pt_A16, ↓gI_W, ↓gL_W, ↓pI_W, ↓pL_W, ↓vv_W, ↓gR_W_1, ↓gR_W_2, ↓gR_W_3, ↓gR_W_4, ↓at_W1, ↓pt_W1, ↓at_W2, ↓pt_W2, ↓at_W3, ↓pt_W3, ↓at_W4, ↓pt_W4, ↓rdR_92, ↓rdR_93, ↓rdR_94, ↓gI_S, ↓gL_S, ↓pI_S, ↓pL_S, ↓vv_S, ↓gR_S_0, ↓gR_S_1, ↓at_S1, ↓pt_S1, ↓at_S2, ↓pt_S2, ↓gI_N, ↓gL_N, ↓pI_N, ↓pL_N, ↓vv_N, ↓gR_N_0, ↓gR_N_1, ↓gR_N_2, ↓at_N1, ↓pt_N1, ↓at_N2, ↓pt_N2, ↓at_N3, ↓pt_N3, ↓pB_S, ↓pB_S0, ↓pB_S1, ↓pB_770, ↓pB_771, ↓at_6, ↓pt_6, ↓atN, ↓ptN, ↓cS, ↓bS, ↓zol, ↓zrb, ↓zrb0, ↓zrb1, ↓reduceIte, z32_s, z32_n, zb_test, zn_add, zn_mul, zn_addN, zn_sub, zU_ne, zU_eq, zU_at, zV_ne, zV_eq, zV_at, p_le, p_nle, p_lt, p_nlt, p_eq, p_neq, p_eqN, p_leN, p_ltN, p_Nle, p_Nlt, p_Neq, p_zt0, p_zt1, eq_self, Nat.reduceAdd, Nat.reduceMul, Nat.reduceSub, Nat.reduceEqDiff, Nat.reduceLT, Nat.reduceLeDiff, if_true, if_false, Bool.false_eq_true, not_true_eq_false, not_false_eq_true, reduceCtorEq]
      exact e4
theorem op_war (hX : zXw t X) : zOK t X (fun h => zx_war sc 64 h) (fun h => zm_war sc 216 h) := by
  have hT := hX.2.2.2.2.2.2.1
  have hw := hX.1
  have hQ := hX.2.2.2.2.2.2.2
  have hm := fun I J r (h : zRm X I J) => mwar_e (sc := sc) (r := r) hX h
  have hc : ∀ I J a b w v wd, zRc X I J (a, b, w, v, wd) → ∃ I' J' wd' F, zx_War_readFrom sc v 65 a (zG I J (a, b, w, v, wd)) = some (zn F, zG I' J' (a, b, w, v, wd')) ∧ zRc (xTp X []) I' J' (a, b, w, v, wd') ∧ (∀ o, 216 ≤ o → I' o = I o ∧ J' o = J o) ∧ (match zwlp (xQ X) (xT X).length 500 0 (ztp (xT X) 0) with
      | .ok W => F = 0 ∧ zWc v I' W ∧ W.length ≤ 24
      | .error G => F = G ∧ 1 ≤ G ∧ G ≤ 20000) := by
    intro I J a b w v wd h
    have hab : (a = 96 ∧ b = 113) ∨ (a = 113 ∧ b = 96) := h.1.1
    have hwv : (w = 130 ∧ v = 135) ∨ (w = 135 ∧ v = 130) := h.1.2
    obtain ⟨I', J', wd', F, e1, e2, e3, e4, e5⟩ := cwarFrom_e (sc := sc) (a := a) (b := b) (w := w) (v := v) (wd := wd) (by omega) (by omega) hw hQ hT h.2.2.2.2.2.2.2.1 h.2.1.2.1 h.2.2.2.2.2.2.2.2.1
    exact ⟨I', J', wd', F, e1, h.dr (fun o q1 q2 q3 q4 q5 q6 => e3 o (by simp only [List.mem_cons, List.not_mem_nil, or_false, not_or] <;> omega)) (fun o _ _ _ q _ => e4 o q) (zTc_n e2), fun o ho => ⟨e3 o (by simp only [List.mem_cons, List.not_mem_nil, or_false, not_or] <;> omega), e4 o (by omega)⟩, e5⟩
  cases hr : zwlp (xQ X) (xT X).length 500 0 (ztp (xT X) 0) with
  | error G =>
    rw [hr] at hc
    refine zOK_of (v := zn G) (X' := xTp X []) hX (zTp_w hX zTw_n) ?_ ?_
    · rintro I J ⟨a, b, w, v, wd⟩ h
      obtain ⟨I', J', wd', F, e1, e2, e3, e4⟩ := hc I J a b w v wd h
      obtain ⟨rfl, e5, e6⟩ := e4
      have hab : (a = 96 ∧ b = 113) ∨ (a = 113 ∧ b = 96) := h.1.1
      have hwv : (w = 130 ∧ v = 135) ∨ (w = 135 ∧ v = 130) := h.1.2
      have hv : v = 130 ∨ v = 135 := by omega
      refine ⟨I', J', _, ?_, e2, e3⟩
      (try dsimp only); rw [ux_war]
      simp (disch := first | assumption | omega) only [↓zoc e1, ↓gI_64, ↓gL_64, ↓pI_64, ↓pL_64, ↓vv_64, ↓gI_65, ↓gL_65, ↓pI_65, ↓pL_65, ↓vv_65, ↓gI_67, ↓gL_67, ↓pI_67, ↓pL_67, ↓vv_67, ↓gI_70, ↓gL_70, ↓pI_70, ↓pL_70, ↓vv_70, ↓gI_73, ↓gL_73, ↓pI_73, ↓pL_73, ↓vv_73, ↓gI_77, ↓gL_77, ↓pI_77, ↓pL_77, ↓vv_77, ↓gI_84, ↓gL_84, ↓pI_84, ↓pL_84, ↓vv_84, ↓gI_90, ↓gL_90, ↓pI_90, ↓pL_90, ↓vv_90, ↓gI_216, ↓gL_216, ↓pI_216, ↓pL_216, ↓vv_216, ↓rd_66, ↓wr_66, ↓ln_66, ↓at_68, ↓pt_68, ↓at_69, ↓pt_69, ↓at_71, ↓pt_71, ↓at_72, ↓pt_72, ↓at_74, ↓pt_74, ↓at_75, ↓pt_75, ↓at_76, ↓pt_76, ↓at_78, ↓pt_78, ↓at_79, ↓pt_79, ↓at_80, ↓pt_80, ↓at_81, ↓pt_81, ↓at_82, ↓pt_82, ↓at_83, ↓pt_83, ↓at_85, ↓pt_85, ↓at_86, ↓pt_86, ↓at_87, ↓pt_87, ↓at_88, ↓pt_88, ↓at_89, ↓pt_89, ↓at_91, ↓pt_91, ↓at_95, ↓pt_95, ↓rd_217, ↓wr_217, ↓ln_217, ↓rd_218, ↓wr_218, ↓ln_218, ↓rd_219, ↓wr_219, ↓ln_219, ↓rd_220, ↓wr_220, ↓ln_220, ↓rd_221, ↓wr_221, ↓ln_221, ↓rd_222, ↓wr_222, ↓ln_222, ↓rd_223, ↓wr_223, ↓ln_223, ↓rd_224, ↓wr_224, ↓ln_224, ↓rd_225, ↓wr_225, ↓ln_225, ↓rd_226, ↓wr_226, ↓ln_226, ↓rd_227, ↓wr_227, ↓ln_227, ↓rd_228, ↓wr_228, ↓ln_228, ↓rd_229, ↓wr_229, ↓ln_229, ↓rd_230, ↓wr_230, ↓ln_230, ↓rd_231, ↓wr_231, ↓ln_231, ↓rd_232, ↓wr_232, ↓ln_232, ↓rd_233, ↓wr_233, ↓ln_233, ↓rd_234, ↓wr_234, ↓ln_234, ↓rd_235, ↓wr_235, ↓ln_235, ↓rd_236, ↓wr_236, ↓ln_236, ↓rd_237, ↓wr_237, ↓ln_237, ↓rd_238, ↓wr_238, ↓ln_238, ↓rd_239, ↓wr_239, ↓ln_239, ↓rd_240, ↓wr_240, ↓ln_240, ↓rd_241, ↓wr_241, ↓ln_241, ↓rd_242, ↓wr_242, ↓ln_242, ↓rd_243, ↓wr_243, ↓ln_243, ↓gR_64_0, ↓gR_64_1, ↓gR_64_2, ↓gR_64_3, ↓gR_64_4, ↓gR_64_5, ↓gR_64_6, ↓gR_64_7, ↓gR_64_8, ↓gR_64_9, ↓gR_64_10, ↓gR_65_0, ↓gR_67_0, ↓gR_67_1, ↓gR_70_0, ↓gR_70_1, ↓gR_73_0, ↓gR_73_1, ↓gR_73_2, ↓gR_77_3, ↓gR_77_4, ↓gR_77_7, ↓gR_77_8, ↓gR_77_9, ↓gR_77_10, ↓gR_84_0, ↓gR_84_1, ↓gR_84_2, ↓gR_84_3, ↓gR_84_4, ↓gR_90_1, ↓gR_216_1, ↓gR_216_4, ↓gR_216_5, ↓gR_216_6, ↓gR_216_9, ↓gR_216_10, ↓gR_216_11, ↓gR_216_12, ↓gR_216_14, ↓gR_216_15, ↓gR_216_16, ↓gR_216_17, ↓gR_216_22, ↓gR_216_23, ↓gR_216_24, ↓gR_216_25, ↓gR_216_27, ↓gR_216_28, ↓gR_216_29, ↓gR_216_31, ↓gR_216_35, ↓gR_216_36, ↓gR_216_37, ↓gR_216_38, ↓gR_216_39, ↓gR_216_43, ↓gR_64_11, ↓gR_64_12, ↓gR_64_13, ↓gR_64_14, ↓gQ_65, ↓gI_A, ↓gL_A, ↓pI_A, ↓pL_A, ↓vv_A, ↓gI_Lw, ↓gL_Lw, ↓pI_Lw, ↓pL_Lw, ↓vv_Lw, ↓gR_A_7, ↓gR_A_8, ↓gR_A_9, ↓gR_A_10, ↓gR_A_11, ↓gR_A_12, ↓gR_A_13, ↓gR_A_14, ↓gR_A_15, ↓gR_A_16, ↓gR_A_17, ↓gR_Lw_0, ↓gR_Lw_1, ↓gR_Lw_2, ↓gR_Lw_3, ↓gR_Lw_4, ↓at_A1, ↓pt_A1, ↓at_A2, ↓pt_A2, ↓at_A3, ↓pt_A3, ↓at_A4, ↓pt_A4, ↓at_A5, ↓pt_A5, ↓at_A6, ↓pt_A6, ↓rd_A7, ↓wr_A7, ↓ln_A7, ↓rd_A8, ↓wr_A8, ↓ln_A8, ↓at_A9, ↓pt_A9, ↓at_A10, ↓pt_A10, ↓at_A12, ↓pt_A12, ↓at_A13, ↓pt_A13, ↓at_A14, ↓pt_A14, ↓at_A15, ↓pt_A15, ↓at_A16, ↓pt_A16, ↓gI_W, ↓gL_W, ↓pI_W, ↓pL_W, ↓vv_W, ↓gR_W_1, ↓gR_W_2, ↓gR_W_3, ↓gR_W_4, ↓at_W1, ↓pt_W1, ↓at_W2, ↓pt_W2, ↓at_W3, ↓pt_W3, ↓at_W4, ↓pt_W4, ↓rdR_92, ↓rdR_93, ↓rdR_94, ↓gI_S, ↓gL_S, ↓pI_S, ↓pL_S, ↓vv_S, ↓gR_S_0, ↓gR_S_1, ↓at_S1, ↓pt_S1, ↓at_S2, ↓pt_S2, ↓gI_N, ↓gL_N, ↓pI_N, ↓pL_N, ↓vv_N, ↓gR_N_0, ↓gR_N_1, ↓gR_N_2, ↓at_N1, ↓pt_N1, ↓at_N2, ↓pt_N2, ↓at_N3, ↓pt_N3, ↓pB_S, ↓pB_S0, ↓pB_S1, ↓pB_770, ↓pB_771, ↓at_6, ↓pt_6, ↓atN, ↓ptN, ↓cS, ↓bS, ↓zol, ↓zrb, ↓zrb0, ↓zrb1, ↓reduceIte, z32_s, z32_n, zb_test, zn_add, zn_mul, zn_addN, zn_sub, zU_ne, zU_eq, zU_at, zV_ne, zV_eq, zV_at, p_le, p_nle, p_lt, p_nlt, p_eq, p_neq, p_eqN, p_leN, p_ltN, p_Nle, p_Nlt, p_Neq, p_zt0, p_zt1, eq_self, Nat.reduceAdd, Nat.reduceMul, Nat.reduceSub, Nat.reduceEqDiff, Nat.reduceLT, Nat.reduceLeDiff, if_true, if_false, Bool.false_eq_true, not_true_eq_false, not_false_eq_true, reduceCtorEq]
    · intro I J r h
      obtain ⟨I', J', e1, e2, e3⟩ := hm I J r h
      rw [hr] at e1 e3
      exact ⟨I', J', e3, e1, e2⟩
  | ok W =>
    rw [hr] at hc
    have hx : zXw (t + 1) (xWr X W) := by
      obtain ⟨x1, x2, x3, x4, x5, x6, x7, x8⟩ := hX.mono (Nat.le_succ t)
      refine ⟨x1, x2, x3, x4, x5, ⟨?_, zwlp_w hw hQ 500 0 _ W hr⟩, zTw_n, x8⟩
      show W.length ≤ 24
      rcases zwlp_24 500 0 _ W hr with q | q
      · rw [q]; decide
      · omega
    refine zOK_of (v := zn 0) (X' := xWr X W) hX hx ?_ ?_
    · rintro I J ⟨a, b, w, v, wd⟩ h
      obtain ⟨I', J', wd', F, e1, e2, e3, e4⟩ := hc I J a b w v wd h
      obtain ⟨rfl, e5, e6⟩ := e4
      have hab : (a = 96 ∧ b = 113) ∨ (a = 113 ∧ b = 96) := h.1.1
      have hwv : (w = 130 ∧ v = 135) ∨ (w = 135 ∧ v = 130) := h.1.2
      have hv : v = 130 ∨ v = 135 := by omega
      refine ⟨I', J', (a, b, v, w, wd'), ?_, ?_, e3⟩
      · (try dsimp only); rw [ux_war]
        have p1 := (pR_64 (a := a) (b := b) (w := w) (v := v) (I := I') (J := J') (wd := wd') w).2.2.2
        have p2 := (pR_64 (a := a) (b := b) (w := w) (v := w) (I := I') (J := J') (wd := wd') v).2.2.1
        simp (disch := first | assumption | omega) only [↓zoc e1, p1, p2, ↓zob p1, ↓zob p2, ↓gI_64, ↓gL_64, ↓pI_64, ↓pL_64, ↓vv_64, ↓gI_65, ↓gL_65, ↓pI_65, ↓pL_65, ↓vv_65, ↓gI_67, ↓gL_67, ↓pI_67, ↓pL_67, ↓vv_67, ↓gI_70, ↓gL_70, ↓pI_70, ↓pL_70, ↓vv_70, ↓gI_73, ↓gL_73, ↓pI_73, ↓pL_73, ↓vv_73, ↓gI_77, ↓gL_77, ↓pI_77, ↓pL_77, ↓vv_77, ↓gI_84, ↓gL_84, ↓pI_84, ↓pL_84, ↓vv_84, ↓gI_90, ↓gL_90, ↓pI_90, ↓pL_90, ↓vv_90, ↓gI_216, ↓gL_216, ↓pI_216, ↓pL_216, ↓vv_216, ↓rd_66, ↓wr_66, ↓ln_66, ↓at_68, ↓pt_68, ↓at_69, ↓pt_69, ↓at_71, ↓pt_71, ↓at_72, ↓pt_72, ↓at_74, ↓pt_74, ↓at_75, ↓pt_75, ↓at_76, ↓pt_76, ↓at_78, ↓pt_78, ↓at_79, ↓pt_79, ↓at_80, ↓pt_80, ↓at_81, ↓pt_81, ↓at_82, ↓pt_82, ↓at_83, ↓pt_83, ↓at_85, ↓pt_85, ↓at_86, ↓pt_86, ↓at_87, ↓pt_87, ↓at_88, ↓pt_88, ↓at_89, ↓pt_89, ↓at_91, ↓pt_91, ↓at_95, ↓pt_95, ↓rd_217, ↓wr_217, ↓ln_217, ↓rd_218, ↓wr_218, ↓ln_218, ↓rd_219, ↓wr_219, ↓ln_219, ↓rd_220, ↓wr_220, ↓ln_220, ↓rd_221, ↓wr_221, ↓ln_221, ↓rd_222, ↓wr_222, ↓ln_222, ↓rd_223, ↓wr_223, ↓ln_223, ↓rd_224, ↓wr_224, ↓ln_224, ↓rd_225, ↓wr_225, ↓ln_225, ↓rd_226, ↓wr_226, ↓ln_226, ↓rd_227, ↓wr_227, ↓ln_227, ↓rd_228, ↓wr_228, ↓ln_228, ↓rd_229, ↓wr_229, ↓ln_229, ↓rd_230, ↓wr_230, ↓ln_230, ↓rd_231, ↓wr_231, ↓ln_231, ↓rd_232, ↓wr_232, ↓ln_232, ↓rd_233, ↓wr_233, ↓ln_233, ↓rd_234, ↓wr_234, ↓ln_234, ↓rd_235, ↓wr_235, ↓ln_235, ↓rd_236, ↓wr_236, ↓ln_236, ↓rd_237, ↓wr_237, ↓ln_237, ↓rd_238, ↓wr_238, ↓ln_238, ↓rd_239, ↓wr_239, ↓ln_239, ↓rd_240, ↓wr_240, ↓ln_240, ↓rd_241, ↓wr_241, ↓ln_241, ↓rd_242, ↓wr_242, ↓ln_242, ↓rd_243, ↓wr_243, ↓ln_243, ↓gR_64_0, ↓gR_64_1, ↓gR_64_2, ↓gR_64_3, ↓gR_64_4, ↓gR_64_5, ↓gR_64_6, ↓gR_64_7, ↓gR_64_8, ↓gR_64_9, ↓gR_64_10, ↓gR_65_0, ↓gR_67_0, ↓gR_67_1, ↓gR_70_0, ↓gR_70_1, ↓gR_73_0, ↓gR_73_1, ↓gR_73_2, ↓gR_77_3, ↓gR_77_4, ↓gR_77_7, ↓gR_77_8, ↓gR_77_9, ↓gR_77_10, ↓gR_84_0, ↓gR_84_1, ↓gR_84_2, ↓gR_84_3, ↓gR_84_4, ↓gR_90_1, ↓gR_216_1, ↓gR_216_4, ↓gR_216_5, ↓gR_216_6, ↓gR_216_9, ↓gR_216_10, ↓gR_216_11, ↓gR_216_12, ↓gR_216_14, ↓gR_216_15, ↓gR_216_16, ↓gR_216_17, ↓gR_216_22, ↓gR_216_23, ↓gR_216_24, ↓gR_216_25, ↓gR_216_27, ↓gR_216_28, ↓gR_216_29, ↓gR_216_31, ↓gR_216_35, ↓gR_216_36, ↓gR_216_37, ↓gR_216_38, ↓gR_216_39, ↓gR_216_43, ↓gR_64_11, ↓gR_64_12, ↓gR_64_13, ↓gR_64_14, ↓gQ_65, ↓gI_A, ↓gL_A, ↓pI_A, ↓pL_A, ↓vv_A, ↓gI_Lw, ↓gL_Lw, ↓pI_Lw, ↓pL_Lw, ↓vv_Lw, ↓gR_A_7, ↓gR_A_8, ↓gR_A_9, ↓gR_A_10, ↓gR_A_11, ↓gR_A_12, ↓gR_A_13, ↓gR_A_14, ↓gR_A_15, ↓gR_A_16, ↓gR_A_17, ↓gR_Lw_0, ↓gR_Lw_1, ↓gR_Lw_2, ↓gR_Lw_3, ↓gR_Lw_4, ↓at_A1, ↓pt_A1, ↓at_A2, ↓pt_A2, ↓at_A3, ↓pt_A3, ↓at_A4, ↓pt_A4, ↓at_A5, ↓pt_A5, ↓at_A6, ↓pt_A6, ↓rd_A7, ↓wr_A7, ↓ln_A7, ↓rd_A8, ↓wr_A8, ↓ln_A8, ↓at_A9, ↓pt_A9, ↓at_A10, ↓pt_A10, ↓at_A12, ↓pt_A12, ↓at_A13, ↓pt_A13, ↓at_A14, ↓pt_A14, ↓at_A15, ↓pt_A15, ↓at_A16, ↓pt_A16, ↓gI_W, ↓gL_W, ↓pI_W, ↓pL_W, ↓vv_W, ↓gR_W_1, ↓gR_W_2, ↓gR_W_3, ↓gR_W_4, ↓at_W1, ↓pt_W1, ↓at_W2, ↓pt_W2, ↓at_W3, ↓pt_W3, ↓at_W4, ↓pt_W4, ↓rdR_92, ↓rdR_93, ↓rdR_94, ↓gI_S, ↓gL_S, ↓pI_S, ↓pL_S, ↓vv_S, ↓gR_S_0, ↓gR_S_1, ↓at_S1, ↓pt_S1, ↓at_S2, ↓pt_S2, ↓gI_N, ↓gL_N, ↓pI_N, ↓pL_N, ↓vv_N, ↓gR_N_0, ↓gR_N_1, ↓gR_N_2, ↓at_N1, ↓pt_N1, ↓at_N2, ↓pt_N2, ↓at_N3, ↓pt_N3, ↓pB_S, ↓pB_S0, ↓pB_S1, ↓pB_770, ↓pB_771, ↓at_6, ↓pt_6, ↓atN, ↓ptN, ↓cS, ↓bS, ↓zol, ↓zrb, ↓zrb0, ↓zrb1, ↓reduceIte, z32_s, z32_n, zb_test, zn_add, zn_mul, zn_addN, zn_sub, zU_ne, zU_eq, zU_at, zV_ne, zV_eq, zV_at, p_le, p_nle, p_lt, p_nlt, p_eq, p_neq, p_eqN, p_leN, p_ltN, p_Nle, p_Nlt, p_Neq, p_zt0, p_zt1, eq_self, Nat.reduceAdd, Nat.reduceMul, Nat.reduceSub, Nat.reduceEqDiff, Nat.reduceLT, Nat.reduceLeDiff, if_true, if_false, Bool.false_eq_true, not_true_eq_false, not_false_eq_true, reduceCtorEq]
      · obtain ⟨r1, r2, r3, r4, r5, r6, r7, r8, r9, r10⟩ := e2
        refine ⟨⟨hab, ?_⟩, r2, r3, r4, r5, r6, e5, r8, r9, r10⟩
        show (v = 130 ∧ w = 135) ∨ (v = 135 ∧ w = 130)
        omega
    · intro I J r h
      obtain ⟨I', J', e1, e2, e3⟩ := hm I J r h
      rw [hr] at e1 e3
      exact ⟨I', J', e3, e1, e2⟩
end ZO
