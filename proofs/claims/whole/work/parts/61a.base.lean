/-! the pure part: the heap as it always lies, and its evaluation -/
def zn (k : Nat) : Int32 := Int32.ofNat k
def zN : Int32 := -1
def zt (b : Bool) : Int32 := if b then 1 else 0
theorem zn_add (a b : Nat) : zn a + zn b = zn (a + b) := (Int32.ofNat_add a b).symm
theorem zn_mul (a b : Nat) : zn a * zn b = zn (a * b) := (Int32.ofNat_mul a b).symm
theorem zn_tn {a : Nat} (h : a < 2147483648) : (zn a).toNatClampNeg = a := Int32.toNatClampNeg_ofNat_of_lt h
theorem zn_ti {a : Nat} (h : a < 2147483648) : (zn a).toInt = a := Int32.toInt_ofNat_of_lt h
theorem zN_ti : zN.toInt = -1 := by decide
theorem zn_lt {a b : Nat} (ha : a < 2147483648) (hb : b < 2147483648) : zn a < zn b ↔ a < b := by
  rw [Int32.lt_iff_toInt_lt, zn_ti ha, zn_ti hb]; omega
theorem zn_le {a b : Nat} (ha : a < 2147483648) (hb : b < 2147483648) : zn a ≤ zn b ↔ a ≤ b := by
  rw [Int32.le_iff_toInt_le, zn_ti ha, zn_ti hb]; omega
theorem zn_eq {a b : Nat} (ha : a < 2147483648) (hb : b < 2147483648) : zn a = zn b ↔ a = b := by
  rw [← Int32.toInt_inj, zn_ti ha, zn_ti hb]; omega
theorem zn_0 {a : Nat} (ha : a < 2147483648) : ¬ zn a < 0 := by
  rw [show (0 : Int32) = zn 0 from rfl, zn_lt ha (by decide)]; omega
theorem zn_m1 {a : Nat} (ha : a < 2147483648) : zn a ≠ zN := by
  intro h
  have h1 := congrArg Int32.toInt h
  rw [zn_ti ha, zN_ti] at h1
  omega
theorem zn_sub {a b : Nat} (h : b ≤ a) : zn a - zn b = zn (a - b) := by
  have : zn a = zn (a - b) + zn b := by rw [zn_add]; congr 1; omega
  rw [this]
  simp
theorem zn_addN {a : Nat} (h : 1 ≤ a) : zn a + zN = zn (a - 1) := by
  rw [← zn_sub h]
  show zn a + -1 = zn a - zn 1
  rw [Int32.sub_eq_add_neg]; rfl
theorem zn_ex (v : Int32) (h : zn 0 ≤ v) : ∃ a, a < 2147483648 ∧ v = zn a := by
  refine ⟨v.toInt.toNat, ?_, ?_⟩
  · have := Int32.toInt_lt v; omega
  · rw [← Int32.toInt_inj, zn_ti (by have := Int32.toInt_lt v; omega)]
    rw [Int32.le_iff_toInt_le, zn_ti (by decide)] at h
    omega
theorem zn_ex' (v : Int32) : (∃ a, a < 2147483648 ∧ v = zn a) ∨ v < zn 0 := by
  by_cases h : zn 0 ≤ v
  · exact Or.inl (zn_ex v h)
  · exact Or.inr (by rw [Int32.lt_iff_toInt_lt]; rw [Int32.le_iff_toInt_le] at h; omega)
theorem zt_t : zt true = zn 1 := rfl
theorem zt_f : zt false = zn 0 := rfl
/-! what conditions come to -/
section ZI
variable {a b : Nat} {c : Bool} {p : Prop}
theorem p_t (h : p) : p = True := eq_true h
theorem p_f (h : ¬ p) : p = False := eq_false h
theorem p_le (h : a ≤ b) (hb : b < 2147483648) : (zn a ≤ zn b) = True := eq_true ((zn_le (by omega) hb).mpr h)
theorem p_nle (h : b < a) (hb : a < 2147483648) : (zn a ≤ zn b) = False := eq_false (fun q => by rw [zn_le hb (by omega)] at q; omega)
theorem p_lt (h : a < b) (hb : b < 2147483648) : (zn a < zn b) = True := eq_true ((zn_lt (by omega) hb).mpr h)
theorem p_nlt (h : b ≤ a) (hb : a < 2147483648) : (zn a < zn b) = False := eq_false (fun q => by rw [zn_lt hb (by omega)] at q; omega)
theorem p_eq (h : a = b) : (zn a = zn b) = True := eq_true (by rw [h])
theorem p_neq (h : a ≠ b) (ha : a < 2147483648) (hb : b < 2147483648) : (zn a = zn b) = False := eq_false (fun q => by rw [zn_eq ha hb] at q; omega)
theorem p_eqN (ha : a < 2147483648) : (zn a = zN) = False := eq_false (zn_m1 ha)
theorem p_leN (ha : a < 2147483648) : (zn a ≤ zN) = False := eq_false (fun q => by rw [Int32.le_iff_toInt_le, zn_ti ha, zN_ti] at q; omega)
theorem p_ltN (ha : a < 2147483648) : (zn a < zN) = False := eq_false (fun q => by rw [Int32.lt_iff_toInt_lt, zn_ti ha, zN_ti] at q; omega)
theorem p_Nle (ha : a < 2147483648) : (zN ≤ zn a) = True := eq_true (by rw [Int32.le_iff_toInt_le, zn_ti ha, zN_ti]; omega)
theorem p_Nlt (ha : a < 2147483648) : (zN < zn a) = True := eq_true (by rw [Int32.lt_iff_toInt_lt, zn_ti ha, zN_ti]; omega)
theorem p_Neq (ha : a < 2147483648) : (zN = zn a) = False := eq_false (fun q => zn_m1 ha q.symm)
theorem p_zt0 : (zt c = zn 0) = (c = false) := by cases c <;> simp [zt, zn]
theorem p_zt1 : (zt c = zn 1) = (c = true) := by cases c <;> simp [zt, zn]
theorem i_le (h : ¬ a ≤ b) (ha : a < 2147483648) (hb : b < 2147483648) : ¬ zn a ≤ zn b := fun q => h ((zn_le ha hb).mp q)
theorem v_nlt {v : Int32} (h : v < zn 0) : ¬ zn a ≤ v ∨ 2147483648 ≤ a := by
  by_cases q : a < 2147483648
  · refine Or.inl (fun w => ?_)
    rw [Int32.lt_iff_toInt_lt, zn_ti (by decide)] at h
    rw [Int32.le_iff_toInt_le, zn_ti q] at w
    omega
  · exact Or.inr (by omega)
end ZI
/-! the kinds and references -/
def zk0 (o : Nat) : Option zK := if 64 ≤ o then zc_sk[o - 64]? else none
abbrev zRr : Type := Nat × Nat × Nat × Nat × Option Nat
abbrev zII : Type := Nat → Nat → Int32
abbrev zJJ : Type := Nat → Nat → Int64
def zR0 : Nat → Nat → Option Nat := zc_h.2.2.2
def zRf (r : zRr) : Nat → Nat → Option Nat := fun o k => if o = 64 ∧ k = 11 then some r.1 else if o = 64 ∧ k = 12 then some r.2.1 else if o = 64 ∧ k = 13 then some r.2.2.1 else if o = 64 ∧ k = 14 then some r.2.2.2.1 else if o = 65 ∧ k = 3 then r.2.2.2.2 else zR0 o k
def zG (I : zII) (J : zJJ) (r : zRr) : zH := (zc_sk, I, J, zRf r)
def zU (I : zII) (o k : Nat) (v : Int32) : zII := fun a b => if a = o then (if b = k then v else I a b) else I a b
def zV (J : zJJ) (o k : Nat) (v : Int64) : zJJ := fun a b => if a = o then (if b = k then v else J a b) else J a b
theorem zU_ne {I : zII} {o k a : Nat} {v : Int32} (h : a ≠ o) : zU I o k v a = I a := by funext b; unfold zU; rw [if_neg h]
theorem zU_ne2 {I : zII} {o k a b : Nat} {v : Int32} (h : b ≠ k) : zU I o k v a b = I a b := by unfold zU; split <;> simp [h]
theorem zU_eq {I : zII} {o k : Nat} {v : Int32} : zU I o k v o k = v := by simp [zU]
theorem zU_at {I : zII} {o k b : Nat} {v : Int32} : zU I o k v o b = if b = k then v else I o b := by simp [zU]
theorem zV_ne {J : zJJ} {o k a : Nat} {v : Int64} (h : a ≠ o) : zV J o k v a = J a := by funext b; unfold zV; rw [if_neg h]
theorem zV_ne2 {J : zJJ} {o k a b : Nat} {v : Int64} (h : b ≠ k) : zV J o k v a b = J a b := by unfold zV; split <;> simp [h]
theorem zV_eq {J : zJJ} {o k : Nat} {v : Int64} : zV J o k v o k = v := by simp [zV]
theorem zV_at {J : zJJ} {o k b : Nat} {v : Int64} : zV J o k v o b = if b = k then v else J o b := by simp [zV]
section ZG
variable {I : zII} {J : zJJ} {r : zRr} {sc : zX} {o n k ci : Nat}
theorem zG_kd (o : Nat) : zq_kd (zG I J r) o = zk0 o := rfl
theorem zk0_64 {kd : zK} (h : zk0 o = some kd) : 64 ≤ o := by
  unfold zk0 at h
  by_cases q : 64 ≤ o
  · exact q
  · rw [if_neg q] at h; cases h
theorem e_gI (hk : zk0 o = some (0, ci)) : zo_gI (zG I J r) ci o k = some (I o k) := by unfold zo_gI; rw [zG_kd, if_pos hk]; rfl
theorem e_gL (hk : zk0 o = some (0, ci)) : zo_gL (zG I J r) ci o k = some (J o k) := by unfold zo_gL; rw [zG_kd, if_pos hk]; rfl
theorem e_gR (hk : zk0 o = some (0, ci)) : zo_gR (zG I J r) ci o k = zRf r o k := by unfold zo_gR; rw [zG_kd, if_pos hk]; rfl
theorem e_gQ (hk : zk0 o = some (0, ci)) : zo_gQ (zG I J r) ci o k = some (zRf r o k) := by unfold zo_gQ; rw [zG_kd, if_pos hk]; rfl
theorem e_pI {v : Int32} (hk : zk0 o = some (0, ci)) : zo_pI (zG I J r) ci o k v = some (zG (zU I o k v) J r) := by unfold zo_pI; rw [zG_kd, if_pos hk]; rfl
theorem e_pB {v : Int32} (hk : zk0 o = some (0, ci)) (hv : zq_fit (zq_ty ci k) v = true) : zo_pB (zG I J r) ci o k v = some (zG (zU I o k v) J r) := by unfold zo_pB; rw [zG_kd, if_pos ⟨hk, hv⟩]; rfl
theorem e_pL {v : Int64} (hk : zk0 o = some (0, ci)) : zo_pL (zG I J r) ci o k v = some (zG I (zV J o k v) r) := by unfold zo_pL; rw [zG_kd, if_pos hk]; rfl
theorem e_rd (hk : zk0 o = some (1, n)) (hi : k < n) (hn : n ≤ 100000) : zq_rdI sc (zG I J r) o (zn k) = some (I o k) := by
  have := zk0_64 hk
  unfold zq_rdI
  rw [if_neg (by omega), zG_kd, hk]
  show (if zn k < 0 ∨ n ≤ (zn k).toNatClampNeg then none else some (I o (zn k).toNatClampNeg)) = _
  rw [zn_tn (by omega), if_neg]
  rintro (q | q)
  · exact zn_0 (by omega) q
  · omega
theorem e_rdX {t : Nat} (hk : zk0 o = some (t, n)) (hi : k < n) (hn : n ≤ 100000) : zq_rdX t (zG I J r) o (zn k) = some (I o k) := by
  unfold zq_rdX
  rw [zG_kd, hk]
  dsimp only
  rw [if_pos rfl, zn_tn (by omega), if_neg]
  · rfl
  rintro (q | q)
  · exact zn_0 (by omega) q
  · omega
theorem e_rdL (hk : zk0 o = some (2, n)) (hi : k < n) (hn : n ≤ 100000) : zq_rdL (zG I J r) o (zn k) = some (J o k) := by
  unfold zq_rdL
  rw [zG_kd, hk]
  show (if zn k < 0 ∨ n ≤ (zn k).toNatClampNeg then none else some (J o (zn k).toNatClampNeg)) = _
  rw [zn_tn (by omega), if_neg]
  rintro (q | q)
  · exact zn_0 (by omega) q
  · omega
theorem e_rdR {t : Nat} (hk : zk0 o = some (t, n)) (ht : t = 5 ∨ t = 6) (hi : k < n) (hn : n ≤ 100000) : zo_rdR (zG I J r) o (zn k) = zRf r o k := by
  have := zk0_64 hk
  unfold zo_rdR zq_rdR
  rw [if_neg (by omega), zG_kd, hk]
  dsimp only
  rw [if_pos ht, zn_tn (by omega), if_neg]
  · rfl
  · rintro (q | q)
    · exact zn_0 (by omega) q
    · omega
theorem e_wr {t : Nat} {x : Int32} (hk : zk0 o = some (t, n)) (hi : k < n) (hn : n ≤ 100000) : zq_wrX t (zG I J r) o (zn k) x = some (zG (zU I o k x) J r) := by
  unfold zq_wrX
  rw [zG_kd, hk]
  dsimp only
  rw [if_pos rfl, zn_tn (by omega), if_neg]
  · rfl
  · rintro (q | q)
    · exact zn_0 (by omega) q
    · omega
theorem e_wrL {x : Int64} (hk : zk0 o = some (2, n)) (hi : k < n) (hn : n ≤ 100000) : zq_wrL (zG I J r) o (zn k) x = some (zG I (zV J o k x) r) := by
  unfold zq_wrL
  rw [zG_kd, hk]
  show (if zn k < 0 ∨ n ≤ (zn k).toNatClampNeg then none else some (zc_sk, zq_sL (I, J, zRf r) o (zn k).toNatClampNeg x)) = _
  rw [zn_tn (by omega), if_neg]
  · rfl
  · rintro (q | q)
    · exact zn_0 (by omega) q
    · omega
theorem e_len {t : Nat} (hk : zk0 o = some (t + 1, n)) (ht : t < 6) : zq_len sc (zG I J r) o = some (zn n) := by
  have := zk0_64 hk
  unfold zq_len
  rw [if_neg (by omega), if_neg (by omega), zG_kd, hk]
  dsimp only
  rw [if_pos ht]
  rfl
theorem e_at (hk : zk0 o = some (1, n)) (hi : k < n) (hn : n ≤ 100000) : zx_at sc o (zn k) (zG I J r) = some (I o k, zG I J r) := by
  unfold zx_at
  rw [if_neg (zn_0 (by omega)), e_len (t := 0) hk (by decide)]
  simp only [zo_b]
  rw [if_neg (by rw [zn_le (by omega) (by omega)]; omega), e_rd hk hi hn]
theorem e_atn {h : zH} {i : Int32} (hi : i < 0) : zx_at sc o i h = some (zn 0, h) := by
  unfold zx_at
  rw [if_pos hi]
  rfl
theorem e_atN {h : zH} : zx_at sc o zN h = some (zn 0, h) := e_atn (by decide)
theorem e_ato (hk : zk0 o = some (1, n)) (hi : n ≤ k) (hn : k < 2147483648) : zx_at sc o (zn k) (zG I J r) = some (zn 0, zG I J r) := by
  unfold zx_at
  rw [if_neg (zn_0 hn), e_len (t := 0) hk (by decide)]
  simp only [zo_b]
  rw [if_pos (by rw [zn_le (by omega) (by omega)]; omega)]
  rfl
theorem e_put {v : Int32} (hk : zk0 o = some (1, n)) (hi : k < n) (hn : n ≤ 100000) : zx_put sc o (zn k) v (zG I J r) = some ((), zG (zU I o k v) J r) := by
  unfold zx_put
  rw [if_neg (zn_0 (by omega)), e_len (t := 0) hk (by decide)]
  simp only [zo_b]
  rw [if_neg (by rw [zn_le (by omega) (by omega)]; omega), e_wr hk hi hn]
theorem e_putn {h : zH} {i v : Int32} (hi : i < 0) : zx_put sc o i v h = some ((), h) := by
  unfold zx_put
  rw [if_pos hi]
theorem e_putN {h : zH} {v : Int32} : zx_put sc o zN v h = some ((), h) := e_putn (by decide)
end ZG
theorem zob {α β : Type} {x : Option α} {a : α} (h : x = some a) (f : α → Option β) : zo_b x f = f a := by rw [h]; rfl
theorem zoc {α β : Type} {x : Option (α × zH)} {a : α} {h' : zH} (h : x = some (a, h')) (f : α → zH → Option β) : zo_c x f = f a h' := by rw [h]; rfl
theorem zov {α β : Type} {I : zII} {J : zJJ} {r : zRr} {o ci : Nat} (hk : zk0 o = some (0, ci)) (x : Option (α × zH)) (f : α → zH → Option β) : zo_v (zG I J r) o ci x f = zo_c x f := by unfold zo_v; rw [zG_kd, if_pos hk]
theorem zol {α β : Type} (x : α) (f : α → β) : zo_l x f = f x := rfl
theorem zrb {b : Bool} {h : zH} : zo_rb (zt b) h = some (zt b, h) := by cases b <;> rfl
theorem zrb0 {h : zH} : zo_rb (zn 0) h = some (zn 0, h) := rfl
theorem zrb1 {h : zH} : zo_rb (zn 1) h = some (zn 1, h) := rfl
theorem zRf_of {r : zRr} {o k v : Nat} (h : (o, k, v) ∈ zc_rf) (h1 : (decide (o = 64 ∧ 11 ≤ k) || decide (o = 65 ∧ k = 3)) = false) : zRf r o k = some v := by
  rw [Bool.or_eq_false_iff, decide_eq_false_iff_not, decide_eq_false_iff_not] at h1
  unfold zRf
  rw [if_neg (by omega), if_neg (by omega), if_neg (by omega), if_neg (by omega), if_neg h1.2]
  have q := zc_refs (o, k, v) h
  dsimp only at q
  unfold zR0
  exact q
/-! rows left alone -/
def zFr (L : List Nat) (I I' : zII) : Prop := ∀ o, o ∉ L → I' o = I o
theorem zFr.refl (L : List Nat) (I : zII) : zFr L I I := fun _ _ => rfl
theorem zFr.tr {L : List Nat} {I I1 I2 : zII} (a : zFr L I I1) (b : zFr L I1 I2) : zFr L I I2 := fun o h => (b o h).trans (a o h)
theorem zFr.mono {L L' : List Nat} {I I' : zII} (a : zFr L I I') (h : ∀ o, o ∈ L → o ∈ L') : zFr L' I I' := fun o q => a o (fun w => q (h o w))
theorem zFr.u {L : List Nat} {I I' : zII} {o k : Nat} {v : Int32} (a : zFr L I I') (h : o ∈ L) : zFr L I (zU I' o k v) := fun q hq => by
  rw [zU_ne (fun e => hq (by rw [e]; exact h))]; exact a q hq
/-! searching -/
def zfd (p : Nat → Bool) : Nat → Nat → Option Nat
  | _, 0 => none
  | j, n + 1 => if p j then some j else zfd p (j + 1) n
def z32 (o : Option Nat) : Int32 := match o with
  | some k => zn k
  | none => zN
theorem zfd_s {p : Nat → Bool} : ∀ {n j k : Nat}, zfd p j n = some k → p k = true ∧ j ≤ k ∧ k < j + n ∧ ∀ i, j ≤ i → i < k → p i = false := by
  intro n
  induction n with
  | zero => intro j k h; cases h
  | succ n ih =>
    intro j k h
    unfold zfd at h
    by_cases c : p j = true
    · rw [if_pos c] at h
      cases h
      exact ⟨c, by omega, by omega, fun i h1 h2 => by omega⟩
    · rw [if_neg c] at h
      obtain ⟨h1, h2, h3, h4⟩ := ih h
      refine ⟨h1, by omega, by omega, fun i q1 q2 => ?_⟩
      by_cases e : i = j
      · rw [e]; simpa using c
      · exact h4 i (by omega) q2
theorem zfd_n {p : Nat → Bool} : ∀ {n j : Nat}, zfd p j n = none → ∀ i, j ≤ i → i < j + n → p i = false := by
  intro n
  induction n with
  | zero => intro j h i h1 h2; omega
  | succ n ih =>
    intro j h i h1 h2
    unfold zfd at h
    by_cases c : p j = true
    · rw [if_pos c] at h; cases h
    · rw [if_neg c] at h
      by_cases e : i = j
      · rw [e]; simpa using c
      · exact ih h i (by omega) (by omega)
theorem zfd_no {p : Nat → Bool} : ∀ {n j : Nat}, (∀ i, j ≤ i → i < j + n → p i = false) → zfd p j n = none := by
  intro n
  induction n with
  | zero => intro j h; rfl
  | succ n ih =>
    intro j h
    unfold zfd
    rw [if_neg (by rw [h j (by omega) (by omega)]; decide)]
    exact ih (fun i h1 h2 => h i (by omega) (by omega))
