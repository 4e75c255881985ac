/-! rings of looks: the order in which they leave is all one -/
def zit (f : Nat → Nat) : Nat → Nat → Nat
  | 0, x => x
  | k + 1, x => zit f k (f x)
theorem zit_add (f : Nat → Nat) : ∀ a b x, zit f (a + b) x = zit f b (zit f a x) := by
  intro a
  induction a with
  | zero => intro b x; rw [Nat.zero_add]; rfl
  | succ a ih =>
    intro b x
    rw [show a + 1 + b = (a + b) + 1 from by omega]
    exact ih b (f x)
theorem zit_s (f : Nat → Nat) (k x : Nat) : zit f (k + 1) x = f (zit f k x) := zit_add f k 1 x
theorem zphp : ∀ n (g : Nat → Nat), (∀ i, i ≤ n → g i < n) → ∃ i j, i < j ∧ j ≤ n ∧ g i = g j := by
  intro n
  induction n with
  | zero => intro g h; exact absurd (h 0 (Nat.le_refl _)) (by omega)
  | succ n ih =>
    intro g h
    by_cases c : ∃ i, i ≤ n ∧ g i = g (n + 1)
    · obtain ⟨i, h1, h2⟩ := c
      exact ⟨i, n + 1, by omega, by omega, h2⟩
    · have hn : ∀ i, i ≤ n → g i ≠ g (n + 1) := fun i hi e => c ⟨i, hi, e⟩
      obtain ⟨i, j, h1, h2, h3⟩ := ih (fun i => if g i = n then g (n + 1) else g i) (fun i hi => by
        have h1 := h i (by omega)
        have h2 := h (n + 1) (by omega)
        have h3 := hn i hi
        split <;> omega)
      refine ⟨i, j, h1, by omega, ?_⟩
      have a1 := hn i (by omega)
      have a2 := hn j (by omega)
      split at h3 <;> split at h3 <;> omega
/-- choices: what the greatest set of those still there lets one take -/
def zCh (c : (Nat → Bool) → Nat → Nat) : Prop := (∀ (T : Nat → Bool) (m : Nat), (∀ x, T x = true → x < 6) → (∃ x, T x = true) → T (c T m) = true) ∧ ∀ (S T : Nat → Bool) (m : Nat), (∀ x, T x = true → x < 6) → (∀ x, S x = true → T x = true) → S (c T m) = true → c S m = c T m
def zrg (c : (Nat → Bool) → Nat → Nat) (T : Nat → Bool) (m : Nat) : Bool := T m && (List.range 6).any (fun k => zit (c T) (k + 1) m == m)
theorem zrg_iff {c : (Nat → Bool) → Nat → Nat} {T : Nat → Bool} {m : Nat} : zrg c T m = true ↔ T m = true ∧ ∃ k, k < 6 ∧ zit (c T) (k + 1) m = m := by
  unfold zrg
  rw [Bool.and_eq_true, List.any_eq_true]
  constructor
  · rintro ⟨h1, k, h2, h3⟩
    exact ⟨h1, k, List.mem_range.mp h2, by simpa using h3⟩
  · rintro ⟨h1, k, h2, h3⟩
    exact ⟨h1, k, List.mem_range.mpr h2, by simpa using h3⟩
def zcd (T : Nat → Bool) : Nat := ((List.range 6).filter T).length
def zmi (T C : Nat → Bool) : Nat → Bool := fun x => T x && !C x
theorem zcd_le (T : Nat → Bool) : zcd T ≤ 6 := by
  unfold zcd
  exact Nat.le_trans (List.length_filter_le _ _) (by simp)
theorem zcd_lt {S T : Nat → Bool} (h : ∀ x, S x = true → T x = true) {y : Nat} (hy : y < 6) (h1 : T y = true) (h2 : S y = false) : zcd S < zcd T := by
  unfold zcd
  have key : ∀ l : List Nat, (l.filter S).length ≤ (l.filter T).length ∧ (y ∈ l → (l.filter S).length < (l.filter T).length) := by
    intro l
    induction l with
    | nil => exact ⟨Nat.le_refl _, fun h => by cases h⟩
    | cons a l ih =>
      obtain ⟨i1, i2⟩ := ih
      by_cases cs : S a = true
      · have ct := h a cs
        rw [List.filter_cons_of_pos cs, List.filter_cons_of_pos ct]
        refine ⟨by simp only [List.length_cons]; omega, fun hm => ?_⟩
        rcases List.mem_cons.mp hm with e | e
        · rw [e] at h2; rw [h2] at cs; cases cs
        · have := i2 e
          simp only [List.length_cons]; omega
      · by_cases ct : T a = true
        · rw [List.filter_cons_of_neg cs, List.filter_cons_of_pos ct]
          exact ⟨by simp only [List.length_cons]; omega, fun _ => by simp only [List.length_cons]; omega⟩
        · rw [List.filter_cons_of_neg cs, List.filter_cons_of_neg ct]
          refine ⟨i1, fun hm => ?_⟩
          rcases List.mem_cons.mp hm with e | e
          · rw [e] at h1; exact absurd h1 ct
          · exact i2 e
  exact (key _).2 (List.mem_range.mpr hy)
theorem zmi_le {T C : Nat → Bool} : ∀ x, zmi T C x = true → T x = true := fun x h => by
  unfold zmi at h; rw [Bool.and_eq_true] at h; exact h.1
theorem zmi_b {T C : Nat → Bool} (hT : ∀ x, T x = true → x < 6) : ∀ x, zmi T C x = true → x < 6 := fun x h => hT x (zmi_le x h)
/-- who gets whose: all rings leave at once, again and again -/
def ztt (c : (Nat → Bool) → Nat → Nat) : Nat → (Nat → Bool) → Nat → Option Nat
  | 0, _, _ => none
  | n + 1, T, m => if T m then (if zrg c T m then some (c T m) else ztt c n (zmi T (zrg c T)) m) else none
section ZT
variable {c : (Nat → Bool) → Nat → Nat} {T : Nat → Bool}
theorem zit_in (hc : zCh c) (hT : ∀ x, T x = true → x < 6) {x : Nat} (hx : T x = true) : ∀ k, T (zit (c T) k x) = true := by
  intro k
  induction k with
  | zero => exact hx
  | succ k ih => rw [zit_s]; exact hc.1 T _ hT ⟨x, hx⟩
/-- six looks on one stands in a ring -/
theorem zrg_six (hc : zCh c) (hT : ∀ x, T x = true → x < 6) {x : Nat} (hx : T x = true) : zrg c T (zit (c T) 6 x) = true := by
  obtain ⟨i, j, h1, h2, h3⟩ := zphp 6 (fun i => zit (c T) i x) (fun i _ => hT _ (zit_in hc hT hx i))
  refine zrg_iff.mpr ⟨zit_in hc hT hx 6, j - i - 1, by omega, ?_⟩
  rw [← zit_add, show 6 + (j - i - 1 + 1) = j + (6 - i) from by omega, zit_add, ← h3, ← zit_add]
  congr 1
  omega
theorem zrg_cl (hc : zCh c) (hT : ∀ x, T x = true → x < 6) {x : Nat} (hx : zrg c T x = true) : zrg c T (c T x) = true := by
  obtain ⟨h1, k, h2, h3⟩ := zrg_iff.mp hx
  refine zrg_iff.mpr ⟨hc.1 T x hT ⟨x, h1⟩, k, h2, ?_⟩
  have : zit (c T) (k + 1) (c T x) = zit (c T) (1 + (k + 1)) x := by rw [zit_add _ 1 (k + 1)]; rfl
  rw [this, Nat.add_comm, zit_add, h3]
  rfl
theorem ztt_st (hc : zCh c) : ∀ n n' T m, (∀ x, T x = true → x < 6) → zcd T ≤ n → zcd T ≤ n' → ztt c n T m = ztt c n' T m := by
  intro n
  induction n with
  | zero =>
    intro n' T m hT h1 h2
    have hno : ∀ x, T x = false := fun x => by
      cases hx : T x with
      | false => rfl
      | true =>
        have := zcd_lt (S := fun _ => false) (T := T) (fun x h => by cases h) (hT x hx) hx rfl
        omega
    cases n' with
    | zero => rfl
    | succ n' =>
      unfold ztt
      rw [hno m]
      rfl
  | succ n ih =>
    intro n' T m hT h1 h2
    cases n' with
    | zero =>
      have hno : ∀ x, T x = false := fun x => by
        cases hx : T x with
        | false => rfl
        | true =>
          have := zcd_lt (S := fun _ => false) (T := T) (fun x h => by cases h) (hT x hx) hx rfl
          omega
      unfold ztt
      rw [hno m]
      rfl
    | succ n' =>
      unfold ztt
      cases hm : T m with
      | false => rfl
      | true =>
        rw [if_pos rfl, if_pos rfl]
        by_cases cr : zrg c T m = true
        · rw [if_pos cr, if_pos cr]
        · rw [if_neg cr, if_neg cr]
          have hr := zrg_six hc hT hm
          have hlt := zcd_lt (S := zmi T (zrg c T)) (T := T) zmi_le (hT _ (zit_in hc hT hm 6)) (zit_in hc hT hm 6) (by unfold zmi; rw [hr]; simp)
          exact ih n' _ m (zmi_b hT) (by omega) (by omega)
/-- rings may leave ahead of others -/
theorem ztt_ring (hc : zCh c) : ∀ d T C n n' m, zcd T ≤ d → (∀ x, T x = true → x < 6) → (∀ x, C x = true → zrg c T x = true) → (∀ x, C x = true → C (c T x) = true) → zcd T ≤ n → zcd (zmi T C) ≤ n' → T m = true → ztt c n T m = if C m then some (c T m) else ztt c n' (zmi T C) m := by
  intro d
  induction d with
  | zero =>
    intro T C n n' m hd hT hC hcl hn hn' hm
    have := zcd_lt (S := fun _ => false) (T := T) (fun x h => by cases h) (hT m hm) hm rfl
    omega
  | succ d ih =>
    intro T C n n' m hd hT hC hcl hn hn' hm
    have hpos := zcd_lt (S := fun _ => false) (T := T) (fun x h => by cases h) (hT m hm) hm rfl
    obtain ⟨n, rfl⟩ : ∃ k, n = k + 1 := ⟨n - 1, by omega⟩
    by_cases hCm : C m = true
    · rw [if_pos hCm]
      unfold ztt
      rw [if_pos hm, if_pos (hC m hCm)]
    · rw [if_neg hCm]
      by_cases hne : ∃ y, C y = true
      · obtain ⟨y, hy⟩ := hne
        have hyR := hC y hy
        have hyT := (zrg_iff.mp hyR).1
        have hlt := zcd_lt (S := zmi T C) (T := T) zmi_le (hT y hyT) hyT (by unfold zmi; rw [hy]; simp)
        have hSm : zmi T C m = true := by unfold zmi; simp [hm, hCm]
        -- the other rings
        have hDcl : ∀ x, zmi (zrg c T) C x = true → zmi (zrg c T) C (c T x) = true := by
          intro x hx
          unfold zmi at hx ⊢
          rw [Bool.and_eq_true] at hx ⊢
          refine ⟨zrg_cl hc hT hx.1, ?_⟩
          cases hq : C (c T x) with
          | false => rfl
          | true =>
            exfalso
            obtain ⟨-, k, -, h3⟩ := zrg_iff.mp hx.1
            have hall : ∀ k z, C z = true → C (zit (c T) k z) = true := by
              intro k
              induction k with
              | zero => intro z hz; exact hz
              | succ k ih => intro z hz; exact ih _ (hcl z hz)
            have := hall k (c T x) hq
            rw [show zit (c T) k (c T x) = zit (c T) (k + 1) x from rfl, h3] at this
            rw [this] at hx
            exact absurd hx.2 (by decide)
        have hDS : ∀ x, zmi (zrg c T) C x = true → zmi T C x = true := by
          intro x hx
          unfold zmi at hx ⊢
          rw [Bool.and_eq_true] at hx ⊢
          exact ⟨(zrg_iff.mp hx.1).1, hx.2⟩
        have hcS : ∀ x, zmi (zrg c T) C x = true → c (zmi T C) x = c T x := fun x hx => hc.2 _ _ x hT zmi_le (hDS _ (hDcl x hx))
        have hit : ∀ k x, zmi (zrg c T) C x = true → zit (c (zmi T C)) k x = zit (c T) k x := by
          intro k
          induction k with
          | zero => intro x _; rfl
          | succ k ih =>
            intro x hx
            show zit (c (zmi T C)) k (c (zmi T C) x) = zit (c T) k (c T x)
            rw [hcS x hx]
            exact ih _ (hDcl x hx)
        have hDR : ∀ x, zmi (zrg c T) C x = true → zrg c (zmi T C) x = true := by
          intro x hx
          have hx' := hx
          unfold zmi at hx'
          rw [Bool.and_eq_true] at hx'
          obtain ⟨-, k, h2, h3⟩ := zrg_iff.mp hx'.1
          exact zrg_iff.mpr ⟨hDS x hx, k, h2, by rw [hit _ x hx]; exact h3⟩
        have hSD : zmi (zmi T C) (zmi (zrg c T) C) = zmi T (zrg c T) := by
          funext x
          unfold zmi
          have := hC x
          revert this
          cases T x <;> cases C x <;> cases zrg c T x <;> simp
        have hltR := zcd_lt (S := zmi T (zrg c T)) (T := T) zmi_le (hT y hyT) hyT (by unfold zmi; rw [hyR]; simp)
        rw [ih (zmi T C) (zmi (zrg c T) C) n' n m (by omega) (zmi_b hT) hDR (fun x hx => by rw [hcS x hx]; exact hDcl x hx) hn' (by rw [hSD]; omega) hSm, hSD]
        have eu : ztt c (n + 1) T m = if T m then (if zrg c T m then some (c T m) else ztt c n (zmi T (zrg c T)) m) else none := rfl
        rw [eu, if_pos hm]
        by_cases hR : zrg c T m = true
        · have hD : zmi (zrg c T) C m = true := by unfold zmi; simp [hR, hCm]
          rw [if_pos hR, if_pos hD, hcS m hD]
        · have hD : ¬ zmi (zrg c T) C m = true := by unfold zmi; simp [hR]
          rw [if_neg hR, if_neg hD]
      · have hno : ∀ x, C x = false := fun x => by
          cases hx : C x with
          | false => rfl
          | true => exact absurd ⟨x, hx⟩ hne
        have e : zmi T C = T := by funext x; unfold zmi; rw [hno x]; simp
        rw [e] at hn' ⊢
        exact ztt_st hc _ _ T m hT hn hn'
/-- those whom one reaches -/
def zorb (f : Nat → Nat) (x m : Nat) : Bool := (List.range 6).any (fun i => zit f i x == m)
theorem zorb_iff {f : Nat → Nat} {x m : Nat} : zorb f x m = true ↔ ∃ i, i < 6 ∧ zit f i x = m := by
  unfold zorb
  rw [List.any_eq_true]
  constructor
  · rintro ⟨i, h1, h2⟩; exact ⟨i, List.mem_range.mp h1, by simpa using h2⟩
  · rintro ⟨i, h1, h2⟩; exact ⟨i, List.mem_range.mpr h1, by simpa using h2⟩
theorem zorb_rg (hc : zCh c) (hT : ∀ x, T x = true → x < 6) {x : Nat} (hx : zrg c T x = true) : ∀ m, zorb (c T) x m = true → zrg c T m = true := by
  intro m hm
  obtain ⟨i, -, rfl⟩ := zorb_iff.mp hm
  clear hm
  induction i with
  | zero => exact hx
  | succ i ih => rw [zit_s]; exact zrg_cl hc hT ih
theorem zorb_cl {x : Nat} (hx : zrg c T x = true) : ∀ m, zorb (c T) x m = true → zorb (c T) x (c T m) = true := by
  intro m hm
  obtain ⟨i, h1, rfl⟩ := zorb_iff.mp hm
  obtain ⟨-, k, h2, h3⟩ := zrg_iff.mp hx
  rw [← zit_s (c T)]
  by_cases q : i + 1 < 6
  · exact zorb_iff.mpr ⟨i + 1, q, rfl⟩
  · refine zorb_iff.mpr ⟨5 - k, by omega, ?_⟩
    rw [show i + 1 = (k + 1) + (5 - k) from by omega, zit_add, h3]
/-- as soon as one comes back to one who was there, all have been there -/
theorem zorb_stop {f : Nat → Nat} {x i : Nat} (hi : i ≤ 6) (h : i = 6 ∨ ∃ j, j < i ∧ zit f j x = zit f i x) (m : Nat) : zorb f x m = true ↔ ∃ j, j < i ∧ zit f j x = m := by
  constructor
  · intro hm
    obtain ⟨k, h1, rfl⟩ := zorb_iff.mp hm
    rcases h with rfl | ⟨j, h2, h3⟩
    · exact ⟨k, h1, rfl⟩
    · clear hm h1
      have key : ∀ d, ∃ j', j' < i ∧ zit f j' x = zit f (j + d) x := by
        intro d
        induction d with
        | zero => exact ⟨j, h2, rfl⟩
        | succ d ih =>
          obtain ⟨j', q1, q2⟩ := ih
          by_cases q : j' + 1 < i
          · refine ⟨j' + 1, q, ?_⟩
            rw [zit_s, q2, ← zit_s f]
            rfl
          · refine ⟨j, h2, ?_⟩
            rw [h3, show i = j' + 1 from by omega, zit_s, q2, ← zit_s f]
            rfl
      by_cases q : k < i
      · exact ⟨k, q, rfl⟩
      · obtain ⟨j', q1, q2⟩ := key (k - j)
        exact ⟨j', q1, by rw [q2]; congr 1; omega⟩
  · rintro ⟨j, h1, h2⟩
    exact zorb_iff.mpr ⟨j, by omega, h2⟩
end ZT
