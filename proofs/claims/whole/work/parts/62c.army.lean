/-! an army, apart from where it lies -/
abbrev zA : Type := Nat × Nat × (Nat → Nat → Nat) × (Nat → Option Nat) × (Nat → Option zCo)
def aP (A : zA) : Nat := A.1
def aM (A : zA) : Nat := A.2.1
/-- 0 kind, 1 weighs; 3 brave, 4 wit, 5 coins; 6: cells, start, theirs, quarter, heed -/
def aF (A : zA) : Nat → Nat → Nat := A.2.2.1
def aU (A : zA) : Nat → Option Nat := A.2.2.2.1
def aC (A : zA) : Nat → Option zCo := A.2.2.2.2
def zfa (w x y z : Int32) (i : Nat) : Int32 := if i = 0 then w else if i = 1 then x else if i = 2 then y else z
def zfm (A : zA) (m p : Nat) : Nat → Int32 := zfa (zn (aF A 3 m)) (zn (aF A 4 m)) (zn (aF A 1 p)) (zn (aF A 0 p))
def zc99 (v : Int32) : Nat := if v < zn 0 then 0 else if zn 99 < v then 99 else v.toNatClampNeg
def zc3 (v : Int32) : Int := if v < -3 then -3 else if zn 3 < v then 3 else v.toInt
def zSk (A : zA) (m p : Nat) : Nat := match aC A 0 with
  | none => if aF A 0 p = 1 then aF A 4 m else aF A 3 m
  | some l => zc99 (lev (zfm A m p) l)
def zLk (A : zA) (m p : Nat) : Int32 := match aC A 1 with
  | none => zn (aF A 1 p)
  | some l => lev (zfm A m p) l
def zGo (A : zA) (x y z : Nat) : Int := match aC A 2 with
  | none => if z = 2 then -1 else if z = 1 then (if x ≤ y then (if y ≤ x then 0 else -1) else 1) else (if y ≤ 2 * x then 0 else -1)
  | some l => zc3 (lev (zfa (zn x) (zn y) (zn z) (zn 0)) l)
/-- what holds of every army -/
def zAw (A : zA) : Prop := aP A ≤ 6 ∧ aM A ≤ 6 ∧ (4 ≤ aF A 6 0 ∧ aF A 6 0 ≤ 40 ∧ 1 ≤ aF A 6 1 ∧ aF A 6 1 < aF A 6 0 ∧ aF A 6 2 ≤ 999 ∧ 1 ≤ aF A 6 3 ∧ aF A 6 3 ≤ 13 ∧ aF A 6 4 ≤ 99) ∧ (∀ p, p < aP A → aF A 0 p ≤ 3 ∧ 1 ≤ aF A 1 p ∧ aF A 1 p ≤ 9 ∧ ∀ u, aU A p = some u → u < p) ∧ (∀ m, m < aM A → aF A 3 m ≤ 9 ∧ aF A 4 m ≤ 9 ∧ aF A 5 m ≤ 999) ∧ ∀ q, q < 3 → ∀ l, aC A q = some l → lok (if q = 2 then 3 else 4) l 0
/-- a law in the class -/
def zLc (a : Nat) (I : zII) (q : Nat) : Option zCo → Prop
  | none => I (a + 13) q = zn 0 ∧ I (a + 14) q = zn 0
  | some l => ∃ b, I (a + 13) q = zn b ∧ I (a + 14) q = zn (b + l.length) ∧ b + l.length ≤ 1000 ∧ ∀ j c, l[j]? = some c → I (a + 12) (b + j) = cst c
/-- a law in the reference -/
def zLm (I : zII) (q : Nat) : Option zCo → Prop
  | none => I 222 (7 + q) = zN
  | some l => ∃ b, I 222 (7 + q) = zn b ∧ b + l.length < 1100 ∧ I 223 (b + l.length) = zn 0 ∧ ∀ j c, l[j]? = some c → I 223 (b + j) = zn c.1 ∧ (c.1 = 1 → I 224 (b + j) = zn c.2) ∧ (c.1 = 2 → I 224 (b + j) = zn (c.2 + if q = 2 then 4 else 0))
def zAc (a : Nat) (I : zII) (A : zA) : Prop := I a 0 = zn (aP A) ∧ I a 1 = zn (aM A) ∧ (∀ i, i < 5 → I a (2 + i) = zn (aF A 6 i)) ∧ (∀ p, p < aP A → I (a + 1) p = zn (aF A 0 p) ∧ I (a + 2) p = zn (aF A 1 p) ∧ I (a + 3) p = z32 (aU A p)) ∧ (∀ i m, i < 3 → m < aM A → I (a + 4 + i) m = zn (aF A (3 + i) m)) ∧ (∀ q, q < 3 → zLc a I q (aC A q)) ∧ ∀ m p, m < aM A → p < aP A → I (a + 9) (m * 6 + p) = zn (zSk A m p) ∧ I (a + 10) (m * 6 + p) = zLk A m p
def zAm (I : zII) (A : zA) : Prop := I 222 0 = zn (aP A) ∧ I 222 1 = zn (aM A) ∧ (∀ i, i < 5 → I 222 (2 + i) = zn (aF A 6 i)) ∧ (∀ p, p < aP A → I 222 (10 + 3 * p) = zn (aF A 0 p) ∧ I 222 (10 + 3 * p + 1) = zn (aF A 1 p) ∧ I 222 (10 + 3 * p + 2) = z32 (aU A p)) ∧ (∀ i m, i < 3 → m < aM A → I 222 (28 + 3 * m + i) = zn (aF A (3 + i) m)) ∧ ∀ q, q < 3 → zLm I q (aC A q)
theorem lok_mono {m m' : Nat} (h : m ≤ m') : ∀ (l : zCo) (t : Nat), lok m l t → lok m' l t
  | [], _, q => q
  | _ :: l, t, q => by
    rcases q with ⟨h1, h2, h3, h4⟩ | ⟨h1, h2, h3, h4⟩ | ⟨h1, h2, h4⟩ | ⟨h1, h1', h2, h4⟩
    · exact Or.inl ⟨h1, h2, h3, lok_mono h l _ h4⟩
    · exact Or.inr (Or.inl ⟨h1, by omega, h3, lok_mono h l _ h4⟩)
    · exact Or.inr (Or.inr (Or.inl ⟨h1, h2, lok_mono h l _ h4⟩))
    · exact Or.inr (Or.inr (Or.inr ⟨h1, h1', h2, lok_mono h l _ h4⟩))
theorem lok_ne {m : Nat} {l : zCo} (h : lok m l 0) : 0 < l.length := by
  cases l with
  | nil => exact absurd h (by show ¬ (0 = 1); decide)
  | cons c l => show 0 < l.length + 1; omega
theorem zAw.lok4 {A : zA} (h : zAw A) {q : Nat} (hq : q < 3) {l : zCo} (hl : aC A q = some l) : lok 4 l 0 := lok_mono (by split <;> omega) l 0 (h.2.2.2.2.2 q hq l hl)
theorem zc99_le (v : Int32) : zc99 v ≤ 99 := by
  unfold zc99
  split
  · omega
  · split
    · omega
    · next h1 h2 =>
      rw [Int32.lt_iff_toInt_lt, zn_ti (by decide)] at h2
      show v.toInt.toNat ≤ 99
      omega
theorem zc3_le (v : Int32) : -3 ≤ zc3 v ∧ zc3 v ≤ 3 := by
  unfold zc3
  split
  · omega
  · split
    · omega
    · next h1 h2 =>
      rw [Int32.lt_iff_toInt_lt, zn_ti (by decide)] at h2
      rw [Int32.lt_iff_toInt_lt] at h1
      have : (-3 : Int32).toInt = -3 := by decide
      omega
theorem zSk_le {A : zA} (hw : zAw A) {m p : Nat} (hm : m < aM A) : zSk A m p ≤ 99 := by
  obtain ⟨-, -, -, -, h5, -⟩ := hw
  have := h5 m hm
  unfold zSk
  split
  · split <;> omega
  · exact zc99_le _
theorem zGo_le (A : zA) (x y z : Nat) : -3 ≤ zGo A x y z ∧ zGo A x y z ≤ 3 := by
  unfold zGo
  split
  · repeat' split
    all_goals omega
  · exact zc3_le _
theorem zc99_c (v : Int32) : (if zn 0 < (if v < zn 99 then v else zn 99) then (if v < zn 99 then v else zn 99) else zn 0) = zn (zc99 v) := by
  have e0 : (zn 0).toInt = 0 := by decide
  have e9 : (zn 99).toInt = 99 := by decide
  have hv : v.toNatClampNeg = v.toInt.toNat := rfl
  unfold zc99
  rw [← Int32.toInt_inj]
  simp only [Int32.lt_iff_toInt_lt, e0, e9, hv]
  by_cases c1 : v.toInt < 99
  · by_cases c2 : 0 < v.toInt
    · have c3 : ¬ v.toInt < 0 := by omega
      have c4 : ¬ 99 < v.toInt := by omega
      simp only [c1, c2, c3, c4, ↓reduceIte]
      rw [zn_ti (by omega)]; omega
    · by_cases c3 : v.toInt < 0
      · simp only [c1, c2, c3, ↓reduceIte]
      · have c4 : ¬ 99 < v.toInt := by omega
        simp only [c1, c2, c3, c4, ↓reduceIte]
        rw [zn_ti (by omega), zn_ti (by omega)]; omega
  · have c2 : (0 : Int) < 99 := by omega
    have c3 : ¬ v.toInt < 0 := by omega
    by_cases c4 : 99 < v.toInt
    · simp only [c1, e9, c2, c3, c4, ↓reduceIte]
    · simp only [c1, e9, c2, c3, c4, ↓reduceIte]
      rw [zn_ti (by omega)]; omega
theorem zc99_m (v : Int32) : (if zn 0 ≤ v then (if v ≤ zn 99 then v else zn 99) else zn 0) = zn (zc99 v) := by
  have e0 : (zn 0).toInt = 0 := by decide
  have e9 : (zn 99).toInt = 99 := by decide
  have hv : v.toNatClampNeg = v.toInt.toNat := rfl
  unfold zc99
  rw [← Int32.toInt_inj]
  simp only [Int32.lt_iff_toInt_lt, Int32.le_iff_toInt_le, e0, e9, hv]
  by_cases c1 : 0 ≤ v.toInt
  · have c3 : ¬ v.toInt < 0 := by omega
    by_cases c2 : v.toInt ≤ 99
    · have c4 : ¬ 99 < v.toInt := by omega
      simp only [c1, c2, c3, c4, ↓reduceIte]
      rw [zn_ti (by omega)]; omega
    · have c4 : 99 < v.toInt := by omega
      simp only [c1, c2, c3, c4, ↓reduceIte]
  · have c3 : v.toInt < 0 := by omega
    simp only [c1, c3, ↓reduceIte]
theorem z_m3 : (-3 : Int32) = zi (-3) := by decide
theorem zi3_ti {a : Int} (h1 : -3 ≤ a) (h2 : a ≤ 3) : (zi a).toInt = a := zi_ti (by omega) (by omega)
theorem zc3_c (v : Int32) : (if (-3 : Int32) < (if v < zn 3 then v else zn 3) then (if v < zn 3 then v else zn 3) else (-3 : Int32)) = zi (zc3 v) := by
  have e0 : (-3 : Int32).toInt = -3 := by decide
  have e9 : (zn 3).toInt = 3 := by decide
  have hr := zc3_le v
  unfold zc3 at *
  rw [← Int32.toInt_inj, zi3_ti hr.1 hr.2]
  clear hr
  simp only [Int32.lt_iff_toInt_lt, e0, e9]
  by_cases c1 : v.toInt < 3
  · by_cases c2 : -3 < v.toInt
    · have c3 : ¬ v.toInt < -3 := by omega
      have c4 : ¬ 3 < v.toInt := by omega
      simp only [c1, c2, c3, c4, ↓reduceIte]
    · by_cases c3 : v.toInt < -3
      · simp only [c1, c2, c3, ↓reduceIte, e0]
      · have c4 : ¬ 3 < v.toInt := by omega
        simp only [c1, c2, c3, c4, ↓reduceIte, e0]
        omega
  · have c2 : (-3 : Int) < 3 := by omega
    have c3 : ¬ v.toInt < -3 := by omega
    by_cases c4 : 3 < v.toInt
    · simp only [c1, e9, c2, c3, c4, ↓reduceIte]
    · simp only [c1, e9, c2, c3, c4, ↓reduceIte]
      omega
theorem zc3_m (v : Int32) : (if (-3 : Int32) ≤ v then (if v ≤ zn 3 then v else zn 3) else (-3 : Int32)) = zi (zc3 v) := by
  have e0 : (-3 : Int32).toInt = -3 := by decide
  have e9 : (zn 3).toInt = 3 := by decide
  have hr := zc3_le v
  unfold zc3 at *
  rw [← Int32.toInt_inj, zi3_ti hr.1 hr.2]
  clear hr
  simp only [Int32.lt_iff_toInt_lt, Int32.le_iff_toInt_le, e0, e9]
  by_cases c1 : -3 ≤ v.toInt
  · have c3 : ¬ v.toInt < -3 := by omega
    by_cases c2 : v.toInt ≤ 3
    · have c4 : ¬ 3 < v.toInt := by omega
      simp only [c1, c2, c3, c4, ↓reduceIte]
    · have c4 : 3 < v.toInt := by omega
      simp only [c1, c2, c3, c4, ↓reduceIte, e9]
  · have c3 : v.toInt < -3 := by omega
    simp only [c1, c3, ↓reduceIte, e0]
