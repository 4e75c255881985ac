/-! loops and bits -/
section ZF
variable {σ β : Type}
/-- a loop that keeps an invariant -/
theorem zfor (F : Nat → Nat → σ → β) (k : σ → β) (P : Nat → σ → Prop) (N : Nat) (hs : ∀ n j s, j < N → P j s → ∃ s', P (j + 1) s' ∧ F (n + 1) j s = F n (j + 1) s') (he : ∀ n s, P N s → F (n + 1) N s = k s) : ∀ d j n s, j + d = N → d < n → P j s → ∃ s', P N s' ∧ F n j s = k s' := by
  intro d
  induction d with
  | zero =>
    intro j n s hj hn hP
    obtain ⟨n, rfl⟩ : ∃ m, n = m + 1 := ⟨n - 1, by omega⟩
    have : j = N := by omega
    subst this
    exact ⟨s, hP, he n s hP⟩
  | succ d ih =>
    intro j n s hj hn hP
    obtain ⟨n, rfl⟩ : ∃ m, n = m + 1 := ⟨n - 1, by omega⟩
    obtain ⟨s1, h1, e1⟩ := hs n j s (by omega) hP
    obtain ⟨s2, h2, e2⟩ := ih (j + 1) n s1 (by omega) (by omega) h1
    exact ⟨s2, h2, e1.trans e2⟩
/-- the same, from the begin, with fuel enough -/
theorem zfor0 (F : Nat → Nat → σ → β) (k : σ → β) (P : Nat → σ → Prop) (N : Nat) (s : σ) (hN : N < 100000) (h0 : P 0 s) (hs : ∀ n j s, j < N → P j s → ∃ s', P (j + 1) s' ∧ F (n + 1) j s = F n (j + 1) s') (he : ∀ n s, P N s → F (n + 1) N s = k s) : ∃ s', P N s' ∧ F zo_F 0 s = k s' :=
  zfor F k P N hs he N 0 zo_F s (by omega) (by unfold zo_F; exact hN) h0
/-- a loop downwards -/
theorem zdwn (F : Nat → Nat → σ → β) (k : σ → β) (P : Nat → σ → Prop) (B : Nat) (hs : ∀ n j s, B < j → P j s → ∃ s', P (j - 1) s' ∧ F (n + 1) j s = F n (j - 1) s') (he : ∀ n s, P B s → F (n + 1) B s = k s) : ∀ d j n s, j = B + d → d < n → P j s → ∃ s', P B s' ∧ F n j s = k s' := by
  intro d
  induction d with
  | zero =>
    intro j n s hj hn hP
    obtain ⟨n, rfl⟩ : ∃ m, n = m + 1 := ⟨n - 1, by omega⟩
    have : j = B := by omega
    subst this
    exact ⟨s, hP, he n s hP⟩
  | succ d ih =>
    intro j n s hj hn hP
    obtain ⟨n, rfl⟩ : ∃ m, n = m + 1 := ⟨n - 1, by omega⟩
    obtain ⟨s1, h1, e1⟩ := hs n j s (by omega) hP
    obtain ⟨s2, h2, e2⟩ := ih (j - 1) n s1 (by omega) (by omega) h1
    exact ⟨s2, h2, e1.trans e2⟩
/-- a loop told by what it does to its state -/
def zfo (f : Nat → σ → σ) : Nat → Nat → σ → σ
  | 0, _, s => s
  | d + 1, j, s => zfo f d (j + 1) (f j s)
theorem zfo_end (f : Nat → σ → σ) : ∀ d j s, zfo f (d + 1) j s = f (j + d) (zfo f d j s) := by
  intro d
  induction d with
  | zero => intro j s; rfl
  | succ d ih =>
    intro j s
    show zfo f (d + 1) (j + 1) (f j s) = _
    rw [ih, show j + 1 + d = j + (d + 1) from by omega]
    rfl
theorem zfold (F : Nat → Nat → σ → β) (k : σ → β) (f : Nat → σ → σ) (N : Nat) (hs : ∀ n j s, j < N → F (n + 1) j s = F n (j + 1) (f j s)) (he : ∀ n s, F (n + 1) N s = k s) : ∀ d j n s, j + d = N → d < n → F n j s = k (zfo f d j s) := by
  intro d
  induction d with
  | zero =>
    intro j n s hj hn
    obtain ⟨n, rfl⟩ : ∃ m, n = m + 1 := ⟨n - 1, by omega⟩
    have : j = N := by omega
    subst this
    exact he n s
  | succ d ih =>
    intro j n s hj hn
    obtain ⟨n, rfl⟩ : ∃ m, n = m + 1 := ⟨n - 1, by omega⟩
    rw [hs n j s (by omega), ih (j + 1) n (f j s) (by omega) (by omega)]
    rfl
theorem zfold0 (F : Nat → Nat → σ → β) (k : σ → β) (f : Nat → σ → σ) (N : Nat) (s : σ) (hN : N < 100000) (hs : ∀ n j s, j < N → F (n + 1) j s = F n (j + 1) (f j s)) (he : ∀ n s, F (n + 1) N s = k s) : F zo_F 0 s = k (zfo f N 0 s) :=
  zfold F k f N hs he N 0 zo_F s (by omega) (by unfold zo_F; exact hN)
theorem zfo_inv (f : Nat → σ → σ) (P : Nat → σ → Prop) (N : Nat) (hs : ∀ j s, j < N → P j s → P (j + 1) (f j s)) : ∀ d j s, j + d = N → P j s → P N (zfo f d j s) := by
  intro d
  induction d with
  | zero => intro j s hj hP; rw [show N = j from by omega]; exact hP
  | succ d ih => intro j s hj hP; exact ih (j + 1) (f j s) (by omega) (hs j s (by omega) hP)
theorem zfo_inv0 (f : Nat → σ → σ) (P : Nat → σ → Prop) (N : Nat) (s : σ) (h0 : P 0 s) (hs : ∀ j s, j < N → P j s → P (j + 1) (f j s)) : P N (zfo f N 0 s) := zfo_inv f P N hs N 0 s (by omega) h0
theorem zfo_congr {f g : Nat → σ → σ} : ∀ d j s, (∀ i s, j ≤ i → i < j + d → f i s = g i s) → zfo f d j s = zfo g d j s := by
  intro d
  induction d with
  | zero => intro j s h; rfl
  | succ d ih =>
    intro j s h
    show zfo f d (j + 1) (f j s) = zfo g d (j + 1) (g j s)
    rw [h j s (by omega) (by omega)]
    exact ih (j + 1) _ (fun i s h1 h2 => h i s (by omega) (by omega))
/-- a search -/
theorem zsrch (F : Nat → Nat → β) (found : Nat → β) (none : β) (p : Nat → Bool) (N : Nat) (hs : ∀ n j, j < N → F (n + 1) j = if p j then found j else F n (j + 1)) (he : ∀ n, F (n + 1) N = none) : ∀ d j n, j + d = N → d < n → F n j = (match zfd p j d with | some k => found k | .none => none) := by
  intro d
  induction d with
  | zero =>
    intro j n hj hn
    obtain ⟨n, rfl⟩ : ∃ m, n = m + 1 := ⟨n - 1, by omega⟩
    have : j = N := by omega
    subst this
    exact he n
  | succ d ih =>
    intro j n hj hn
    obtain ⟨n, rfl⟩ : ∃ m, n = m + 1 := ⟨n - 1, by omega⟩
    rw [hs n j (by omega)]
    unfold zfd
    by_cases c : p j = true
    · rw [if_pos c, if_pos c]
    · rw [if_neg c, if_neg c, ih (j + 1) n (by omega) (by omega)]
theorem zsrch0 (F : Nat → Nat → β) (found : Nat → β) (none : β) (p : Nat → Bool) (N : Nat) (hN : N < 100000) (hs : ∀ n j, j < N → F (n + 1) j = if p j then found j else F n (j + 1)) (he : ∀ n, F (n + 1) N = none) : F zo_F 0 = (match zfd p 0 N with | some k => found k | .none => none) :=
  zsrch F found none p N hs he N 0 zo_F (by omega) (by unfold zo_F; exact hN)
end ZF
/-! bits -/
def zb (x : Int32) (p : Nat) : Bool := x.toBitVec.getLsbD p
theorem zb_or (x y : Int32) (p : Nat) : zb (x ||| y) p = (zb x p || zb y p) := by
  unfold zb; rw [Int32.toBitVec_or, BitVec.getLsbD_or]
theorem zb_and (x y : Int32) (p : Nat) : zb (x &&& y) p = (zb x p && zb y p) := by
  unfold zb; rw [Int32.toBitVec_and, BitVec.getLsbD_and]
theorem zb_xor (x y : Int32) (p : Nat) : zb (x ^^^ y) p = (zb x p ^^ zb y p) := by
  unfold zb; rw [Int32.toBitVec_xor, BitVec.getLsbD_xor]
theorem zb_N (p : Nat) (hp : p < 32) : zb zN p = true := by
  revert p; decide
theorem zb_0 (p : Nat) : zb (zn 0) p = false := by
  unfold zb; show (0#32).getLsbD p = false; simp
theorem zb_nat (s p : Nat) (hp : p < 32) : zb (zn s) p = s.testBit p := by
  unfold zb zn
  show (BitVec.ofNat 32 s).getLsbD p = _
  rw [BitVec.getLsbD_ofNat]
  simp [hp]
theorem zb_ext {x y : Int32} (h : ∀ p, p < 32 → zb x p = zb y p) : x = y := by
  apply Int32.toBitVec_inj.mp
  apply BitVec.eq_of_getLsbD_eq
  intro i hi
  exact h i hi
theorem zn_31 : ∀ p, p < 32 → (zn p &&& 31) = zn p := by decide
theorem zb_shl : ∀ q, q < 32 → ∀ p, p < 32 → zb (zn 1 <<< (zn q &&& 31)) p = decide (p = q) := by decide +kernel
theorem zb_one : ∀ p, p < 32 → zb (zn 1) p = decide (p = 0) := by decide +kernel
theorem zb_shr (x : Int32) (q : Nat) (hq : q < 32) : zb (x >>> (zn q &&& 31)) 0 = zb x q := by
  unfold zb
  rw [zn_31 q hq, Int32.toBitVec_shiftRight]
  have e : ((zn q).toBitVec.smod 32).toNat = q := by
    revert q; decide +kernel
  show (BitVec.sshiftRight' x.toBitVec ((zn q).toBitVec.smod 32)).getLsbD 0 = _
  rw [BitVec.sshiftRight', e, BitVec.getLsbD_sshiftRight]
  simp [hq]
theorem zb_test (x : Int32) (q : Nat) (hq : q < 32) : (x >>> (zn q &&& 31)) &&& zn 1 = zt (zb x q) := by
  apply zb_ext
  intro p hp
  rw [zb_and, zb_one p hp]
  by_cases c : p = 0
  · subst c
    rw [zb_shr x q hq]
    cases zb x q <;> simp [zt, zb_one, zb_0, zb] <;> decide
  · cases zb x q <;> simp [zt, c] 
    · exact zb_0 p
    · show zb (zn 1) p = false
      rw [zb_one p hp]; simp [c]
/-! whole numbers -/
def zi (a : Int) : Int32 := Int32.ofInt a
theorem zi_ti {a : Int} (h1 : -2147483648 ≤ a) (h2 : a < 2147483648) : (zi a).toInt = a := by
  unfold zi
  exact Int32.toInt_ofInt_of_le h1 h2
theorem zi_n (k : Nat) : zi (k : Int) = zn k := by
  unfold zi zn
  exact Int32.ofInt_eq_ofNat
theorem zi_add (a b : Int) : zi a + zi b = zi (a + b) := (Int32.ofInt_add a b).symm
theorem zi_sub (a b : Int) : zi a - zi b = zi (a - b) := (Int32.ofInt_sub a b).symm
theorem zi_mul (a b : Int) : zi a * zi b = zi (a * b) := (Int32.ofInt_mul a b).symm
theorem zi_neg (a : Int) : -zi a = zi (-a) := (Int32.ofInt_neg a).symm
theorem zi_N : zN = zi (-1) := by decide
theorem zi_lt {a b : Int} (h1 : -2147483648 ≤ a) (h2 : a < 2147483648) (h3 : -2147483648 ≤ b) (h4 : b < 2147483648) : zi a < zi b ↔ a < b := by
  rw [Int32.lt_iff_toInt_lt, zi_ti h1 h2, zi_ti h3 h4]
theorem zi_le {a b : Int} (h1 : -2147483648 ≤ a) (h2 : a < 2147483648) (h3 : -2147483648 ≤ b) (h4 : b < 2147483648) : zi a ≤ zi b ↔ a ≤ b := by
  rw [Int32.le_iff_toInt_le, zi_ti h1 h2, zi_ti h3 h4]
theorem zi_eq {a b : Int} (h1 : -2147483648 ≤ a) (h2 : a < 2147483648) (h3 : -2147483648 ≤ b) (h4 : b < 2147483648) : zi a = zi b ↔ a = b := by
  rw [← Int32.toInt_inj, zi_ti h1 h2, zi_ti h3 h4]
theorem zi_ex (v : Int32) : ∃ a : Int, -2147483648 ≤ a ∧ a < 2147483648 ∧ v = zi a := by
  refine ⟨v.toInt, Int32.le_toInt v, Int32.toInt_lt v, ?_⟩
  rw [← Int32.toInt_inj, zi_ti (Int32.le_toInt v) (Int32.toInt_lt v)]
theorem z32_s (k : Nat) : z32 (some k) = zn k := rfl
theorem z32_n : z32 none = zN := rfl
theorem z32_inj {x y : Option Nat} (hx : ∀ k, x = some k → k < 2147483648) (hy : ∀ k, y = some k → k < 2147483648) : z32 x = z32 y ↔ x = y := by
  cases x with
  | none => cases y with
    | none => simp
    | some k =>
      have := hy k rfl
      rw [z32_s, z32_n]
      constructor
      · intro h; exact absurd h.symm (zn_m1 this)
      · intro h; cases h
  | some j => cases y with
    | none =>
      have := hx j rfl
      rw [z32_s, z32_n]
      constructor
      · intro h; exact absurd h (zn_m1 this)
      · intro h; cases h
    | some k =>
      rw [z32_s, z32_s, zn_eq (hx j rfl) (hy k rfl)]
      simp
/-! rules for rows of six, wherever -/
section ZE
variable {β : Type} {I : zII} {J : zJJ} {r : zRr} {sc : zX} {k o : Nat} {x : Int32} {f5 : Int32 → zH → Option β} {f6 : Unit → zH → Option β}
theorem at_6 (ho : zk0 o = some (1, 6)) (hi : k < 6) : zo_c (zx_at sc o (zn k) (zG I J r)) f5 = f5 (I o k) (zG I J r) := zoc (e_at ho hi (by decide)) f5
theorem pt_6 (ho : zk0 o = some (1, 6)) (hi : k < 6) : zo_c (zx_put sc o (zn k) x (zG I J r)) f6 = f6 () (zG (zU I o k x) J r) := zoc (e_put ho hi (by decide)) f6
end ZE
