/-! all ways, counted -/
def zgw (M n p T e : Nat) (h : Nat → Option Nat) : List (Nat → Option Nat) := zgv M n p (fun x => T.testBit x) e h
theorem ztb_or (T m : Nat) : (fun x => (T ||| 2 ^ m).testBit x) = fun x => T.testBit x || x == m := by
  funext x
  rw [Nat.testBit_or, Nat.testBit_two_pow]
  congr 1
  by_cases c : m = x
  · subst c; simp
  · have c' : ¬ x = m := fun q => c q.symm
    rw [decide_eq_false c]
    exact (beq_eq_false_iff_ne.mpr c').symm
theorem zgw_0 (M p T e : Nat) (h : Nat → Option Nat) : zgw M 0 p T e h = [h] := rfl
theorem zgw_s (M n p T e : Nat) (h : Nat → Option Nat) : zgw M (n + 1) p T e h = ((List.range M).filter (fun m => !T.testBit m)).flatMap (fun m => zgw M n (p + 1) (T ||| 2 ^ m) e (zup h p (some m))) ++ (if 0 < e then zgw M n (p + 1) T (e - 1) (zup h p none) else []) := by
  unfold zgw
  show ((List.range M).filter (fun m => !T.testBit m)).flatMap (fun m => zgv M n (p + 1) (fun x => T.testBit x || x == m) e (zup h p (some m))) ++ _ = _
  congr 2
  funext m
  rw [ztb_or]
def zun (M T : Nat) : Nat := ((List.range M).filter (fun m => !T.testBit m)).length
theorem zun_s : ∀ M, M < 7 → ∀ T, T < 64 → ∀ m, m < M → T.testBit m = false → zun M (T ||| 2 ^ m) + 1 = zun M T := by decide +kernel
theorem zun_0 : ∀ M, M < 7 → zun M 0 = M := by decide +kernel
def zLn' : Nat → Nat → Nat → Nat
  | 0, _, _ => 1
  | n + 1, u, e => u * zLn' n (u - 1) e + (if 0 < e then zLn' n u (e - 1) else 0)
theorem zfm_len {α : Type} {f : Nat → List α} {K : Nat} : ∀ (xs : List Nat), (∀ m, m ∈ xs → (f m).length = K) → (xs.flatMap f).length = xs.length * K := by
  intro xs
  induction xs with
  | nil => intro _; rw [List.flatMap_nil, List.length_nil, List.length_nil, Nat.zero_mul]
  | cons x xs ih =>
    intro h
    rw [List.flatMap_cons, List.length_append, ih (fun m hm => h m (List.mem_cons_of_mem _ hm)), h x List.mem_cons_self, List.length_cons, Nat.succ_mul, Nat.add_comm]
theorem zgw_len {M : Nat} (hM : M < 7) : ∀ n p T e h, T < 64 → (zgw M n p T e h).length = zLn' n (zun M T) e := by
  intro n
  induction n with
  | zero => intro p T e h _; rfl
  | succ n ih =>
    intro p T e h hT
    rw [zgw_s, List.length_append, zfm_len (K := zLn' n (zun M T - 1) e) _ (fun m hm => ?_)]
    · show zun M T * _ + _ = zun M T * zLn' n (zun M T - 1) e + _
      congr 1
      split
      · exact ih _ _ _ _ hT
      · rfl
    · rw [List.mem_filter, List.mem_range, Bool.not_eq_true'] at hm
      have h1 := zun_s M hM T hT m hm.1 hm.2
      rw [ih _ _ _ _ (zset T hT m (by omega)).2.1, show zun M (T ||| 2 ^ m) = zun M T - 1 from by omega]
theorem zLn_b : ∀ P, P < 7 → ∀ M, M < 7 → 1 ≤ zLn' P M (P - M) ∧ zLn' P M (P - M) ≤ 720 := by decide +kernel
theorem zWl_w (A : zA) : zWl A = zgw (aM A) (aP A) 0 0 (aP A - aM A) (fun _ => none) := by
  unfold zWl zgw
  congr 1
  funext x
  exact (Nat.zero_testBit x).symm
theorem zWl_len {A : zA} (hw : zAw A) : 1 ≤ (zWl A).length ∧ (zWl A).length ≤ 720 := by
  have h1 := hw.1
  have h2 := hw.2.1
  rw [zWl_w, zgw_len (by omega) _ _ _ _ _ (by decide), zun_0 _ (by omega)]
  exact zLn_b (aP A) (by omega) (aM A) (by omega)
theorem zgw_hw {M : Nat} : ∀ n p T e h, (∀ q m, h q = some m → m < M) → ∀ g, g ∈ zgw M n p T e h → ∀ q m, g q = some m → m < M := by
  intro n
  induction n with
  | zero =>
    intro p T e h hh g hg
    rw [zgw_0, List.mem_singleton] at hg
    subst hg
    exact hh
  | succ n ih =>
    intro p T e h hh g hg
    rw [zgw_s, List.mem_append, List.mem_flatMap] at hg
    rcases hg with ⟨m, hm, hg⟩ | hg
    · rw [List.mem_filter, List.mem_range] at hm
      refine ih _ _ _ _ (fun q m' hq => ?_) g hg
      unfold zup at hq
      split at hq
      · injection hq with hq; omega
      · exact hh q m' hq
    · split at hg
      · refine ih _ _ _ _ (fun q m' hq => ?_) g hg
        unfold zup at hq
        split at hq
        · cases hq
        · exact hh q m' hq
      · exact absurd hg (List.not_mem_nil)
theorem zWl_hw (A : zA) : ∀ g, g ∈ zWl A → zHw A g := by
  intro g hg
  rw [zWl_w] at hg
  exact fun q _ m hm => zgw_hw _ _ _ _ _ (fun _ _ h => by cases h) g hg q m hm
/-! one way more -/
theorem zbst_sn (A : zA) (h : Nat → Option Nat) : ∀ (l : List (Nat → Option Nat)) (b : Option (Nat × (Nat → Option Nat))), zbst A (l ++ [h]) b = (match zbst A l b with
    | none => some (zStr A h, h)
    | some c => if c.1 < zStr A h then some (zStr A h, h) else some c) := by
  intro l
  induction l with
  | nil => intro b; cases b <;> rfl
  | cons x l ih =>
    intro b
    cases b with
    | none => exact ih _
    | some c => exact ih _
theorem zbst_none {A : zA} {l : List (Nat → Option Nat)} : zbst A l none = none ↔ l = [] := by
  have key : ∀ (l : List (Nat → Option Nat)) b, zbst A l (some b) ≠ none := by
    intro l
    induction l with
    | nil => intro b h; cases h
    | cons x l ih =>
      intro b
      show zbst A l (if b.1 < zStr A x then some (zStr A x, x) else some b) ≠ none
      split
      · exact ih _
      · exact ih _
  cases l with
  | nil => exact ⟨fun _ => rfl, fun _ => rfl⟩
  | cons x l =>
    constructor
    · intro h; exact absurd h (key l _)
    · intro h; cases h
theorem zbst_le {A : zA} {B : Nat} : ∀ (l : List (Nat → Option Nat)) b c, (∀ h, h ∈ l → zStr A h ≤ B) → (∀ d, b = some d → d.1 ≤ B) → zbst A l b = some c → c.1 ≤ B := by
  intro l
  induction l with
  | nil => intro b c _ hb e; exact hb c e
  | cons x l ih =>
    intro b c hl hb e
    have hx := hl x List.mem_cons_self
    cases b with
    | none => exact ih _ c (fun h q => hl h (List.mem_cons_of_mem _ q)) (fun d q => by cases q; exact hx) e
    | some b =>
      refine ih _ c (fun h q => hl h (List.mem_cons_of_mem _ q)) (fun d q => ?_) e
      split at q
      · cases q; exact hx
      · exact hb d q
theorem zcnt_sn (A : zA) (l : List (Nat → Option Nat)) (h : Nat → Option Nat) (x : Nat) : zcnt A (l ++ [h]) x = zcnt A l x + (if ztri A h = x then 1 else 0) := by
  unfold zcnt
  rw [List.filter_append, List.length_append]
  congr 1
  by_cases c : ztri A h = x
  · rw [if_pos c, List.filter_cons_of_pos (by simpa using c)]; rfl
  · rw [if_neg c, List.filter_cons_of_neg (by simpa using c)]; rfl
theorem zcnt_le (A : zA) (l : List (Nat → Option Nat)) (x : Nat) : zcnt A l x ≤ l.length := List.length_filter_le _ _
theorem ztri_lt (A : zA) (h : Nat → Option Nat) : ztri A h < 343 := by
  have h0 := zGo_le A (zStr A h) (aF A 6 2) 0
  have h1 := zGo_le A (zStr A h) (aF A 6 2) 1
  have h2 := zGo_le A (zStr A h) (aF A 6 2) 2
  unfold ztri zmv
  omega
theorem znd_len : ∀ (N : Nat) (l : List Nat), l.Nodup → (∀ x, x ∈ l → x < N) → l.length ≤ N := by
  intro N
  induction N with
  | zero =>
    intro l _ h
    cases l with
    | nil => exact Nat.le_refl _
    | cons x l => exact absurd (h x List.mem_cons_self) (Nat.not_lt_zero _)
  | succ N ih =>
    intro l hn h
    by_cases c : N ∈ l
    · have h1 := ih (l.erase N) (hn.erase N) (fun x hx => by
        have h2 := h x (List.mem_of_mem_erase hx)
        have h3 : x ≠ N := (List.Nodup.mem_erase_iff hn).mp hx |>.1
        omega)
      rw [List.length_erase_of_mem c] at h1
      omega
    · have := ih l hn (fun x hx => by
        have h2 := h x hx
        have h3 : x ≠ N := fun q => c (q ▸ hx)
        omega)
      omega
