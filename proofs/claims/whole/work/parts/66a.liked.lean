/-! whom one looks at -/
def zav (h : Nat → Option Nat) (T : Nat → Bool) (p : Nat) : Bool := match h p with
  | some k => T k
  | none => false
def zlb (A : zA) (h : Nat → Option Nat) (T : Nat → Bool) (m : Nat) (p : Nat) (acc : Option Nat) : Option Nat := if zav h T p && (match acc with | none => true | some q => decide (zLk A m q < zLk A m p)) then some p else acc
def zLB (A : zA) (h : Nat → Option Nat) (T : Nat → Bool) (m : Nat) : Option Nat := zfo (zlb A h T m) (aP A) 0 none
theorem zLB_inv (A : zA) (h : Nat → Option Nat) (T : Nat → Bool) (m : Nat) : ∀ N, (zfo (zlb A h T m) N 0 none = none ∧ ∀ q, q < N → zav h T q = false) ∨ ∃ p, zfo (zlb A h T m) N 0 none = some p ∧ p < N ∧ zav h T p = true ∧ (∀ q, q < N → zav h T q = true → zLk A m q ≤ zLk A m p) ∧ ∀ q, q < p → zav h T q = true → zLk A m q < zLk A m p := by
  intro N
  induction N with
  | zero => exact Or.inl ⟨rfl, fun q hq => by omega⟩
  | succ N ih =>
    rw [zfo_end, Nat.zero_add]
    rcases ih with ⟨h1, h2⟩ | ⟨p, h1, h2, h3, h4, h5⟩
    · rw [h1]
      unfold zlb
      cases hq : zav h T N with
      | false =>
        left
        refine ⟨by simp, fun q hqN => ?_⟩
        by_cases e : q = N
        · rw [e]; exact hq
        · exact h2 q (by omega)
      | true =>
        right
        refine ⟨N, by simp, by omega, hq, fun q hqN hqa => ?_, fun q hqN hqa => ?_⟩
        · by_cases e : q = N
          · rw [e]; exact Int32.le_refl _
          · rw [h2 q (by omega)] at hqa; cases hqa
        · rw [h2 q hqN] at hqa; cases hqa
    · rw [h1]
      right
      unfold zlb
      by_cases c : (zav h T N && decide (zLk A m p < zLk A m N)) = true
      · rw [if_pos c]
        rw [Bool.and_eq_true, decide_eq_true_iff] at c
        refine ⟨N, rfl, by omega, c.1, fun q hqN hqa => ?_, fun q hqN hqa => ?_⟩
        · by_cases e : q = N
          · rw [e]; exact Int32.le_refl _
          · exact Int32.le_trans (h4 q (by omega) hqa) (Int32.le_of_lt c.2)
        · have := h4 q hqN hqa
          rw [Int32.le_iff_toInt_le] at this
          have c2 := c.2
          rw [Int32.lt_iff_toInt_lt] at c2 ⊢
          omega
      · rw [if_neg c]
        refine ⟨p, rfl, by omega, h3, fun q hqN hqa => ?_, h5⟩
        by_cases e : q = N
        · subst e
          rw [hqa, Bool.true_and, decide_eq_true_iff] at c
          exact Int32.not_lt.mp c
        · exact h4 q (by omega) hqa
theorem zLB_s {A : zA} {h : Nat → Option Nat} {T : Nat → Bool} {m p : Nat} (e : zLB A h T m = some p) : p < aP A ∧ zav h T p = true ∧ (∀ q, q < aP A → zav h T q = true → zLk A m q ≤ zLk A m p) ∧ ∀ q, q < p → zav h T q = true → zLk A m q < zLk A m p := by
  rcases zLB_inv A h T m (aP A) with ⟨h1, h2⟩ | ⟨p', h1, h2⟩
  · unfold zLB at e; rw [h1] at e; cases e
  · unfold zLB at e; rw [h1] at e; cases e; exact h2
theorem zLB_n {A : zA} {h : Nat → Option Nat} {T : Nat → Bool} {m : Nat} (e : zLB A h T m = none) : ∀ q, q < aP A → zav h T q = false := by
  rcases zLB_inv A h T m (aP A) with ⟨h1, h2⟩ | ⟨p', h1, h2⟩
  · exact h2
  · unfold zLB at e; rw [h1] at e; cases e
/-- whose post one likes best -/
def zcm (A : zA) (h : Nat → Option Nat) (T : Nat → Bool) (m : Nat) : Nat := match zLB A h T m with
  | some p => (h p).getD 0
  | none => (zfd T 0 6).getD 0
theorem zcm_ch (A : zA) (h : Nat → Option Nat) : zCh (zcm A h) := by
  refine ⟨fun T m hT hne => ?_, fun S T m hT hS hc => ?_⟩
  · unfold zcm
    cases e : zLB A h T m with
    | some p =>
      have := (zLB_s e).2.1
      unfold zav at this
      cases hq : h p with
      | none => rw [hq] at this; cases this
      | some k => rw [hq] at this; show T ((h p).getD 0) = true; rw [hq]; exact this
    | none =>
      obtain ⟨x, hx⟩ := hne
      have hx6 := hT x hx
      cases e2 : zfd T 0 6 with
      | none => have := zfd_n e2 x (by omega) (by omega); rw [hx] at this; cases this
      | some k => exact (zfd_s e2).1
  · unfold zcm at hc ⊢
    cases e : zLB A h T m with
    | some p =>
      obtain ⟨p1, p2, p3, p4⟩ := zLB_s e
      rw [e] at hc
      dsimp only at hc
      have pS : zav h S p = true := by
        unfold zav at p2 ⊢
        cases hq : h p with
        | none => rw [hq] at p2; cases p2
        | some k => rw [hq] at hc; exact hc
      have sub : ∀ q, zav h S q = true → zav h T q = true := by
        intro q hq
        unfold zav at hq ⊢
        cases e2 : h q with
        | none => rw [e2] at hq; cases hq
        | some k => rw [e2] at hq; exact hS k hq
      cases e3 : zLB A h S m with
      | none => have := zLB_n e3 p p1; rw [pS] at this; cases this
      | some q =>
        obtain ⟨q1, q2, q3, q4⟩ := zLB_s e3
        have : q = p := by
          have l1 := p3 q q1 (sub q q2)
          have l2 := q3 p p1 pS
          rcases Nat.lt_trichotomy p q with c | c | c
          · have l3 := q4 p c pS
            rw [Int32.le_iff_toInt_le] at l1
            rw [Int32.lt_iff_toInt_lt] at l3
            omega
          · exact c.symm
          · have l3 := p4 q c (sub q q2)
            rw [Int32.le_iff_toInt_le] at l2
            rw [Int32.lt_iff_toInt_lt] at l3
            omega
        rw [this]
    | none =>
      have hno := zLB_n e
      have e3 : zLB A h S m = none := by
        cases e4 : zLB A h S m with
        | none => rfl
        | some q =>
          obtain ⟨q1, q2, -, -⟩ := zLB_s e4
          have := hno q q1
          unfold zav at q2 this
          cases e5 : h q with
          | none => rw [e5] at q2; cases q2
          | some k => rw [e5] at q2 this; have t2 : T k = false := this; rw [hS k q2] at t2; cases t2
      rw [e] at hc
      rw [e3]
      dsimp only at hc ⊢
      cases e6 : zfd T 0 6 with
      | none =>
        have : zfd S 0 6 = none := zfd_no (fun i h1 h2 => by
          have := zfd_n e6 i h1 h2
          cases hs : S i with
          | false => rfl
          | true => rw [hS i hs] at this; cases this)
        rw [this]
      | some k =>
        rw [e6] at hc
        obtain ⟨k1, k2, k3, k4⟩ := zfd_s e6
        cases e7 : zfd S 0 6 with
        | none => have := zfd_n e7 k (by omega) (by omega); rw [show S k = true from hc] at this; cases this
        | some j =>
          obtain ⟨j1, j2, j3, j4⟩ := zfd_s e7
          show j = k
          rcases Nat.lt_trichotomy j k with c | c | c
          · have := k4 j (by omega) c; rw [hS j j1] at this; cases this
          · exact c
          · have := j4 k (by omega) c; rw [show S k = true from hc] at this; cases this
/-- those who have posts -/
def zT0 (A : zA) (h : Nat → Option Nat) (m : Nat) : Bool := decide (m < aM A) && (zPm h m).isSome
theorem zcm_p {A : zA} {h : Nat → Option Nat} {T : Nat → Bool} (hi : ∀ p q m, h p = some m → h q = some m → p = q) (h6 : aP A ≤ 6) (hb : ∀ p m, h p = some m → p < aP A) (hT : ∀ x, T x = true → zT0 A h x = true) {m : Nat} (hne : ∃ x, T x = true) : ∃ p, zLB A h T m = some p ∧ p < aP A ∧ h p = some (zcm A h T m) ∧ T (zcm A h T m) = true ∧ zPm h (zcm A h T m) = some p := by
  cases e : zLB A h T m with
  | none =>
    obtain ⟨x, hx⟩ := hne
    have := hT x hx
    unfold zT0 at this
    rw [Bool.and_eq_true, decide_eq_true_iff] at this
    cases e2 : zPm h x with
    | none => rw [e2] at this; exact absurd this.2 (by decide)
    | some p =>
      have hp := (zPm_s e2).1
      have := zLB_n e p (hb p x hp)
      unfold zav at this
      rw [hp] at this
      rw [show T x = false from this] at hx
      cases hx
  | some p =>
    obtain ⟨p1, p2, -, -⟩ := zLB_s e
    unfold zav at p2
    cases hq : h p with
    | none => rw [hq] at p2; cases p2
    | some k =>
      rw [hq] at p2
      have hk : zcm A h T m = k := by unfold zcm; rw [e]; show (h p).getD 0 = k; rw [hq]; rfl
      rw [hk]
      exact ⟨p, rfl, p1, hq, p2, zPm_i hi (by omega) hq⟩
