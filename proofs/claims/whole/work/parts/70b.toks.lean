/-! tokens -/
def zcl (c : Nat) : Nat := if 97 ≤ c ∧ c ≤ 122 then 1 else if 48 ≤ c ∧ c ≤ 57 then 2 else if c = 32 ∨ c = 10 then 4 else if c = 40 ∨ c = 41 ∨ c = 60 ∨ c = 61 ∨ c = 43 ∨ c = 45 ∨ c = 42 ∨ c = 59 then 3 else 5
/-- sort, place, what it is made of, the place behind it -/
abbrev zTo : Type := Nat × Nat × List Nat × Nat
def zru (T : List Nat) (k : Nat) : Nat → Nat → Nat
  | 0, p => p
  | f + 1, p => match T[p]? with
    | none => p
    | some c => if zcl c = k then zru T k f (p + 1) else p
def zen (T : List Nat) (k p : Nat) : Nat := zru T k T.length p
theorem zru_p (T : List Nat) (k : Nat) : ∀ f p, p ≤ zru T k f p ∧ (p ≤ T.length → zru T k f p ≤ T.length) ∧ (∀ i, p ≤ i → i < zru T k f p → ∃ c, T[i]? = some c ∧ zcl c = k) ∧ (T.length ≤ p + f → ∀ c, T[zru T k f p]? = some c → zcl c ≠ k) := by
  intro f
  induction f with
  | zero =>
    intro p
    refine ⟨Nat.le_refl _, fun h => h, fun i h1 h2 => absurd h2 (Nat.not_lt.mpr h1), fun h c hc => ?_⟩
    have h2 : T[p]? = some c := hc
    have := (List.getElem?_eq_some_iff.mp h2).1
    omega
  | succ f ih =>
    intro p
    cases ht : T[p]? with
    | none =>
      have e : zru T k (f + 1) p = p := by unfold zru; rw [ht]
      rw [e]
      refine ⟨Nat.le_refl _, fun h => h, fun i h1 h2 => absurd h2 (Nat.not_lt.mpr h1), fun h c hc => ?_⟩
      rw [ht] at hc; cases hc
    | some c =>
      have hlt := (List.getElem?_eq_some_iff.mp ht).1
      by_cases hk : zcl c = k
      · have e : zru T k (f + 1) p = zru T k f (p + 1) := by
          show (match T[p]? with | none => p | some c => if zcl c = k then zru T k f (p + 1) else p) = _
          rw [ht]
          exact if_pos hk
        rw [e]
        obtain ⟨i1, i2, i3, i4⟩ := ih (p + 1)
        refine ⟨by omega, fun h => i2 (by omega), fun i h1 h2 => ?_, fun h => i4 (by omega)⟩
        by_cases q : i = p
        · subst q; exact ⟨c, ht, hk⟩
        · exact i3 i (by omega) h2
      · have e : zru T k (f + 1) p = p := by
          show (match T[p]? with | none => p | some c => if zcl c = k then zru T k f (p + 1) else p) = _
          rw [ht]
          exact if_neg hk
        rw [e]
        refine ⟨Nat.le_refl _, fun h => h, fun i h1 h2 => absurd h2 (Nat.not_lt.mpr h1), fun h c' hc => ?_⟩
        rw [ht] at hc
        injection hc with hc
        subst hc
        exact hk
theorem zen_gt {T : List Nat} {k p c : Nat} (h : T[p]? = some c) (hk : zcl c = k) : p < zen T k p := by
  have hlt := (List.getElem?_eq_some_iff.mp h).1
  unfold zen
  obtain ⟨f, hf⟩ : ∃ f, T.length = f + 1 := ⟨T.length - 1, by omega⟩
  rw [hf]
  have e : zru T k (f + 1) p = zru T k f (p + 1) := by
    show (match T[p]? with | none => p | some c => if zcl c = k then zru T k f (p + 1) else p) = _
    rw [h]
    exact if_pos hk
  rw [e]
  have := (zru_p T k f (p + 1)).1
  omega
def zchs (T : List Nat) (p e : Nat) : List Nat := (T.drop p).take (e - p)
def ztok (T : List Nat) (p c : Nat) : zTo :=
  if zcl c = 1 then ((if zen T 1 p - p ≤ 8 then 1 else 4), p, (zchs T p (zen T 1 p)).map (fun c => c - 96), zen T 1 p)
  else if zcl c = 2 then ((if zen T 2 p - p ≤ 4 then 2 else 4), p, (zchs T p (zen T 2 p)).map (fun c => c - 48), zen T 2 p)
  else ((if zcl c = 3 then 3 else 4), p, [c], p + 1)
def zto (T : List Nat) : Nat → Nat → List zTo
  | 0, _ => []
  | f + 1, p => match T[p]? with
    | none => []
    | some c => if zcl c = 4 then zto T f (p + 1) else ztok T p c :: zto T f (ztok T p c).2.2.2
def ztp (T : List Nat) (p : Nat) : List zTo := zto T (T.length + 1 - p) p
theorem ztok_n {T : List Nat} {p c : Nat} (h : T[p]? = some c) : p < (ztok T p c).2.2.2 ∧ (ztok T p c).2.2.2 ≤ T.length := by
  have hlt := (List.getElem?_eq_some_iff.mp h).1
  unfold ztok
  split
  · next q => exact ⟨zen_gt h q, (zru_p T 1 T.length p).2.1 (by omega)⟩
  · split
    · next q => exact ⟨zen_gt h q, (zru_p T 2 T.length p).2.1 (by omega)⟩
    · dsimp only; omega
theorem zto_some {T : List Nat} {f p c : Nat} (h : T[p]? = some c) : zto T (f + 1) p = if zcl c = 4 then zto T f (p + 1) else ztok T p c :: zto T f (ztok T p c).2.2.2 := by
  show (match T[p]? with | none => [] | some c => if zcl c = 4 then zto T f (p + 1) else ztok T p c :: zto T f (ztok T p c).2.2.2) = _
  rw [h]
theorem zto_none {T : List Nat} {f p : Nat} (h : T[p]? = none) : zto T f p = [] := by
  cases f with
  | zero => rfl
  | succ f =>
    show (match T[p]? with | none => [] | some c => if zcl c = 4 then zto T f (p + 1) else ztok T p c :: zto T f (ztok T p c).2.2.2) = _
    rw [h]
theorem zto_st (T : List Nat) : ∀ f g p, T.length + 1 ≤ f + p → T.length + 1 ≤ g + p → zto T f p = zto T g p := by
  intro f
  induction f with
  | zero =>
    intro g p h1 h2
    have hn : T[p]? = none := List.getElem?_eq_none_iff.mpr (by omega)
    rw [zto_none hn, zto_none hn]
  | succ f ih =>
    intro g p h1 h2
    cases ht : T[p]? with
    | none => rw [zto_none ht, zto_none ht]
    | some c =>
      have hlt := (List.getElem?_eq_some_iff.mp ht).1
      have hn := ztok_n ht
      obtain ⟨g, rfl⟩ : ∃ m, g = m + 1 := ⟨g - 1, by omega⟩
      rw [zto_some ht, zto_some ht, ih g (p + 1) (by omega) (by omega), ih g (ztok T p c).2.2.2 (by omega) (by omega)]
theorem ztp_b {T : List Nat} {p c : Nat} (h : T[p]? = some c) (hc : zcl c = 4) : ztp T p = ztp T (p + 1) := by
  have hlt := (List.getElem?_eq_some_iff.mp h).1
  unfold ztp
  rw [show T.length + 1 - p = (T.length - p) + 1 from by omega, zto_some h, if_pos hc]
  exact zto_st T _ _ _ (by omega) (by omega)
theorem ztp_c {T : List Nat} {p c : Nat} (h : T[p]? = some c) (hc : zcl c ≠ 4) : ztp T p = ztok T p c :: ztp T (ztok T p c).2.2.2 := by
  have hlt := (List.getElem?_eq_some_iff.mp h).1
  have hn := ztok_n h
  unfold ztp
  rw [show T.length + 1 - p = (T.length - p) + 1 from by omega, zto_some h, if_neg hc]
  rw [zto_st T (T.length - p) (T.length + 1 - (ztok T p c).2.2.2) _ (by omega) (by omega)]
theorem ztp_e {T : List Nat} {p : Nat} (h : T.length ≤ p) : ztp T p = [] := zto_none (List.getElem?_eq_none_iff.mpr h)
/-- a token as it must be -/
def zTg (t : zTo) : Prop := t.2.1 < 1000 ∧ ((t.1 = 1 ∧ zWd t.2.2.1) ∨ (t.1 = 2 ∧ zcw 10 t.2.2.1 0 ≤ 9999) ∨ (t.1 = 3 ∧ ∃ c, t.2.2.1 = [c] ∧ c < 127) ∨ t.1 = 4)
theorem zchs_len {T : List Nat} {p e : Nat} (h : e ≤ T.length) : (zchs T p e).length = e - p := by
  unfold zchs
  rw [List.length_take, List.length_drop]
  omega
theorem zchs_at {T : List Nat} {p e i : Nat} (h : i < e - p) : (zchs T p e)[i]? = T[p + i]? := by
  unfold zchs
  rw [List.getElem?_take, if_pos h, List.getElem?_drop]
theorem zchs_s {T : List Nat} {p e c : Nat} (hp : p ≤ e) (h : T[e]? = some c) : zchs T p (e + 1) = zchs T p e ++ [c] := by
  unfold zchs
  rw [show e + 1 - p = (e - p) + 1 from by omega, List.take_succ, List.getElem?_drop, show p + (e - p) = e from by omega, h]
  rfl
theorem zcl_1 {c : Nat} (h : zcl c = 1) : 97 ≤ c ∧ c ≤ 122 := by
  unfold zcl at h
  split at h
  · assumption
  · split at h
    · cases h
    · split at h
      · cases h
      · split at h <;> cases h
theorem zcl_2 {c : Nat} (h : zcl c = 2) : 48 ≤ c ∧ c ≤ 57 := by
  unfold zcl at h
  split at h
  · cases h
  · split at h
    · assumption
    · split at h
      · cases h
      · split at h <;> cases h
theorem zcl_3 {c : Nat} (h : zcl c = 3) : c < 127 := by
  unfold zcl at h
  split at h
  · cases h
  · split at h
    · cases h
    · split at h
      · cases h
      · split at h
        · omega
        · cases h
theorem zcw_lt {b : Nat} (hb : 1 ≤ b) : ∀ (w : List Nat) a, (∀ x, x ∈ w → x < b) → zcw b w a < (a + 1) * b ^ w.length := by
  intro w
  induction w with
  | nil => intro a _; show a < (a + 1) * 1; omega
  | cons x w ih =>
    intro a h
    have h1 := ih (b * a + x) (fun y hy => h y (List.mem_cons_of_mem _ hy))
    have h2 := h x List.mem_cons_self
    show zcw b w (b * a + x) < _
    refine Nat.lt_of_lt_of_le h1 ?_
    rw [List.length_cons, Nat.pow_succ, Nat.mul_comm (b ^ w.length) b, ← Nat.mul_assoc]
    refine Nat.mul_le_mul_right _ ?_
    rw [Nat.add_mul, Nat.mul_comm a b]
    omega
theorem zcw_10 {w : List Nat} (h : ∀ x, x ∈ w → x < 10) (hl : w.length ≤ 4) : zcw 10 w 0 ≤ 9999 := by
  have h1 := zcw_lt (b := 10) (by decide) w 0 h
  have h2 : 10 ^ w.length ≤ 10 ^ 4 := Nat.pow_le_pow_right (by decide) hl
  have h3 : (10 : Nat) ^ 4 = 10000 := by decide
  omega
theorem ztok_g {T : List Nat} (hT : zTw T) {p c : Nat} (h : T[p]? = some c) : zTg (ztok T p c) := by
  have hlt := (List.getElem?_eq_some_iff.mp h).1
  have hl := hT.1
  have hmem : ∀ k x, x ∈ zchs T p (zen T k p) → zcl x = k := by
    intro k x hx
    obtain ⟨r1, r2, r3, r4⟩ := zru_p T k T.length p
    obtain ⟨i, hi, rfl⟩ := List.getElem_of_mem hx
    have hi' := hi
    rw [zchs_len (e := zen T k p) (r2 (by omega))] at hi'
    have e1 : (zchs T p (zen T k p))[i]? = some (zchs T p (zen T k p))[i] := List.getElem?_eq_getElem hi
    rw [zchs_at hi'] at e1
    have hi2 : i < zru T k T.length p - p := hi'
    obtain ⟨c', k1, k2⟩ := r3 (p + i) (by omega) (by omega)
    rw [k1] at e1
    injection e1 with e1
    rw [← e1]; exact k2
  unfold ztok zTg
  by_cases q1 : zcl c = 1
  · rw [if_pos q1]
    refine ⟨by show p < 1000; omega, ?_⟩
    by_cases q2 : zen T 1 p - p ≤ 8
    · refine Or.inl ⟨if_pos q2, ?_, ?_, fun x hx => ?_⟩
      · show 1 ≤ ((zchs T p (zen T 1 p)).map (fun c => c - 96)).length
        have := zen_gt h q1
        rw [List.length_map, zchs_len (e := zen T 1 p) ((zru_p T 1 T.length p).2.1 (by omega))]
        omega
      · show ((zchs T p (zen T 1 p)).map (fun c => c - 96)).length ≤ 8
        rw [List.length_map, zchs_len (e := zen T 1 p) ((zru_p T 1 T.length p).2.1 (by omega))]
        exact q2
      · obtain ⟨y, hy, rfl⟩ := List.mem_map.mp hx
        have := zcl_1 (hmem 1 y hy)
        omega
    · exact Or.inr (Or.inr (Or.inr (if_neg q2)))
  · rw [if_neg q1]
    by_cases q2 : zcl c = 2
    · rw [if_pos q2]
      refine ⟨by show p < 1000; omega, ?_⟩
      by_cases q3 : zen T 2 p - p ≤ 4
      · refine Or.inr (Or.inl ⟨if_pos q3, ?_⟩)
        refine zcw_10 (fun x hx => ?_) ?_
        · obtain ⟨y, hy, rfl⟩ := List.mem_map.mp hx
          have := zcl_2 (hmem 2 y hy)
          omega
        · show ((zchs T p (zen T 2 p)).map (fun c => c - 48)).length ≤ 4
          rw [List.length_map, zchs_len (e := zen T 2 p) ((zru_p T 2 T.length p).2.1 (by omega))]
          exact q3
      · exact Or.inr (Or.inr (Or.inr (if_neg q3)))
    · rw [if_neg q2]
      refine ⟨by show p < 1000; omega, ?_⟩
      by_cases q3 : zcl c = 3
      · exact Or.inr (Or.inr (Or.inl ⟨if_pos q3, c, rfl, zcl_3 q3⟩))
      · exact Or.inr (Or.inr (Or.inr (if_neg q3)))
theorem ztp_g {T : List Nat} (hT : zTw T) : ∀ d p, T.length ≤ p + d → (∀ t, t ∈ ztp T p → zTg t) ∧ (ztp T p).length ≤ T.length - p := by
  intro d
  induction d with
  | zero =>
    intro p hp
    rw [ztp_e (by omega)]
    exact ⟨fun t ht => absurd ht (List.not_mem_nil), Nat.zero_le _⟩
  | succ d ih =>
    intro p hp
    cases h : T[p]? with
    | none => rw [ztp_e (List.getElem?_eq_none_iff.mp h)]; exact ⟨fun t ht => absurd ht (List.not_mem_nil), Nat.zero_le _⟩
    | some c =>
      have hlt := (List.getElem?_eq_some_iff.mp h).1
      by_cases hc : zcl c = 4
      · rw [ztp_b h hc]
        have := ih (p + 1) (by omega)
        exact ⟨this.1, by omega⟩
      · rw [ztp_c h hc]
        have hn := ztok_n h
        have := ih (ztok T p c).2.2.2 (by omega)
        refine ⟨fun t ht => ?_, by rw [List.length_cons]; omega⟩
        rcases List.mem_cons.mp ht with rfl | q
        · exact ztok_g hT h
        · exact this.1 t q
/-- the words, by the class's order; the reference's words among them -/
def zwl : List (List Nat) := [[16,15,19,20],[13,1,14],[23,5,9,7,8,19],[21,14,4,5,18],[2,18,1,22,5],[23,9,20],[3,15,9,14,19],[1,20],[14,15,20],[1,14,4],[15,18],[19,11,9,12,12],[23,15,18,20,8],[7,15,5,19],[6,18,15,14,20],[20,8,5,9,18,19],[17,21,1,18,20,5,18],[8,5,5,4],[4,18,1,23],[19,5,12,12],[15,18,4,5,18],[23,5,5,11,19],[8,15,12,4],[16,21,19,8],[25,9,5,12,4],[6,15,15,20],[8,15,18,19,5],[13,21,12,5],[6,15,5],[3,15,21,18,1,7,5],[19,5,14,19,5],[12,15,1,4],[11,9,14,4],[15,21,18,19],[1,7,1,9,14,19,20],[23,8,1,20]]
theorem zwl_c : ∀ i, i < 36 → zq_wC.getD i 0 = zl (zcw 27 (zwl.getD i []) 0) := by decide +kernel
def zsg : List Nat := [0, 2, 3, 1, 4, 5, 6, 14, 7, 15, 16, 17, 11, 12, 13, 18, 19, 20, 21, 22, 23, 24, 25, 26, 27, 28, 8, 9, 10, 29, 30, 31, 32, 33, 34, 35]
theorem zsg_c : ∀ i, i < 36 → zwd37.getD i 0 = zcw 37 (zwl.getD (zsg.getD i 0) []) 0 ∧ zsg.getD i 0 < 36 := by decide +kernel
theorem zwl_w : ∀ i, i < 36 → 1 ≤ (zwl.getD i []).length ∧ (zwl.getD i []).length ≤ 8 ∧ ∀ x, x ∈ zwl.getD i [] → 1 ≤ x ∧ x ≤ 26 := by decide +kernel
theorem zwl_i : ∀ i, i < 36 → ∀ j, j < 36 → zwl.getD i [] = zwl.getD j [] → i = j := by decide +kernel
theorem zcw_sn (b : Nat) : ∀ (w : List Nat) (a x : Nat), zcw b (w ++ [x]) a = b * zcw b w a + x := by
  intro w
  induction w with
  | nil => intro a x; rfl
  | cons y w ih => intro a x; exact ih (b * a + y) x
theorem zcw_inj {b : Nat} (hb : 27 ≤ b) : ∀ n (w w' : List Nat), w.length ≤ n → (∀ x, x ∈ w → 1 ≤ x ∧ x ≤ 26) → (∀ x, x ∈ w' → 1 ≤ x ∧ x ≤ 26) → zcw b w 0 = zcw b w' 0 → w = w' := by
  intro n
  induction n with
  | zero =>
    intro w w' hn h1 h2 e
    have hw : w = [] := List.length_eq_zero_iff.mp (by omega)
    subst hw
    rcases List.eq_nil_or_concat w' with q | ⟨v, x, q⟩
    · exact q.symm
    · subst q
      rw [List.concat_eq_append, zcw_sn] at e
      have := h2 x (by rw [List.concat_eq_append]; exact List.mem_append_right _ (List.mem_singleton.mpr rfl))
      have e' : 0 = b * zcw b v 0 + x := e
      omega
  | succ n ih =>
    intro w w' hn h1 h2 e
    rcases List.eq_nil_or_concat w with q | ⟨u, y, q⟩
    · subst q
      rcases List.eq_nil_or_concat w' with q | ⟨v, x, q⟩
      · exact q.symm
      · subst q
        rw [List.concat_eq_append, zcw_sn] at e
        have := h2 x (by rw [List.concat_eq_append]; exact List.mem_append_right _ (List.mem_singleton.mpr rfl))
        have e' : 0 = b * zcw b v 0 + x := e
        omega
    · subst q
      rw [List.concat_eq_append] at hn h1 e ⊢
      rw [List.length_append, List.length_singleton] at hn
      have hy := h1 y (List.mem_append_right _ (List.mem_singleton.mpr rfl))
      rcases List.eq_nil_or_concat w' with q | ⟨v, x, q⟩
      · subst q
        rw [zcw_sn] at e
        have e' : b * zcw b u 0 + y = 0 := e
        omega
      · subst q
        rw [List.concat_eq_append] at h2 e ⊢
        have hx := h2 x (List.mem_append_right _ (List.mem_singleton.mpr rfl))
        rw [zcw_sn, zcw_sn] at e
        have m1 : (b * zcw b u 0 + y) % b = y := by rw [Nat.mul_add_mod]; exact Nat.mod_eq_of_lt (by omega)
        have m2 : (b * zcw b v 0 + x) % b = x := by rw [Nat.mul_add_mod]; exact Nat.mod_eq_of_lt (by omega)
        have hxy : y = x := by rw [← m1, ← m2, e]
        subst hxy
        have e2 : b * zcw b u 0 = b * zcw b v 0 := by omega
        have e3 : zcw b u 0 = zcw b v 0 := Nat.eq_of_mul_eq_mul_left (by omega) e2
        rw [ih u v (by omega) (fun z hz => h1 z (List.mem_append_left _ hz)) (fun z hz => h2 z (List.mem_append_left _ hz)) e3]
theorem zcw_b {b : Nat} (hb : 27 ≤ b) (hb2 : b ≤ 37) {w : List Nat} (hw : zWd w) : zcw b w 0 < 9223372036854775808 := by
  have h1 := zcw_lt (b := b) (by omega) w 0 (fun x hx => by have := hw.2.2 x hx; omega)
  have h2 : b ^ w.length ≤ 37 ^ 8 := Nat.le_trans (Nat.pow_le_pow_left hb2 _) (Nat.pow_le_pow_right (by decide) hw.2.1)
  have h3 : (37 : Nat) ^ 8 = 3512479453921 := by decide
  omega
/-- which word -/
def zwi (w : List Nat) : Option Nat := zfd (fun i => decide (zwl.getD i [] = w)) 0 36
theorem zwi_s {w : List Nat} {i : Nat} (h : zwi w = some i) : i < 36 ∧ zwl.getD i [] = w := by
  obtain ⟨h1, h2, h3, h4⟩ := zfd_s h
  exact ⟨by omega, of_decide_eq_true h1⟩
theorem zwi_i {i : Nat} (hi : i < 36) : zwi (zwl.getD i []) = some i := by
  cases h : zwi (zwl.getD i []) with
  | none =>
    have := zfd_n h i (by omega) (by omega)
    rw [decide_eq_true rfl] at this
    cases this
  | some j =>
    obtain ⟨h1, h2⟩ := zwi_s h
    rw [zwl_i j h1 i hi h2]
