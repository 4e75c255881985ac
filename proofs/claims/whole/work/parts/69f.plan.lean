/-! plan: what is reckoned -/
def zdg : Nat → Nat → List Nat
  | 0, _ => []
  | w + 1, c => zdg w (c / 3) ++ [c % 3]
def ztu : Nat → Nat → Nat → Nat
  | 0, v, _ => v
  | w + 1, v, l => ztu w (3 * v + l % 3) (l / 3)
def zls3 : Nat → Nat → List Nat
  | 0, _ => []
  | w + 1, l => l % 3 :: zls3 w (l / 3)
theorem zls_tu : ∀ w, w < 6 → ∀ c, c < 243 → zls3 w (ztu w 0 c) = zdg w c ∧ ztu w 0 c < 243 := by decide +kernel
theorem zdg_at : ∀ w, w < 6 → ∀ c, c < 243 → ∀ k, k < w → (zdg w c)[k]? = some (ztu w 0 c / 3 ^ k % 3) := by decide +kernel
theorem ztu_0 : ∀ w, w < 6 → zls3 w 0 = zdg w 0 := by decide +kernel
theorem zdg_len : ∀ w c, (zdg w c).length = w := by
  intro w
  induction w with
  | zero => intro c; rfl
  | succ w ih => intro c; show (zdg w (c / 3) ++ [c % 3]).length = w + 1; rw [List.length_append, ih]; rfl
theorem zdg_lt : ∀ w c x, x ∈ zdg w c → x < 3 := by
  intro w
  induction w with
  | zero => intro c x h; exact absurd h (List.not_mem_nil)
  | succ w ih =>
    intro c x h
    rcases List.mem_append.mp h with q | q
    · exact ih _ x q
    · rw [List.mem_singleton] at q; omega
theorem zls3_len : ∀ w c, (zls3 w c).length = w := by
  intro w
  induction w with
  | zero => intro c; rfl
  | succ w ih => intro c; show (zls3 w (c / 3)).length + 1 = w + 1; rw [ih]
/-- where the front comes to -/
def zfr (A : zA) (m : Nat → Int) (l : List Nat) (f : Nat) : Nat := l.foldl (fun f o => zAft A f (m o)) f
theorem zfr_le {A : zA} {m : Nat → Int} : ∀ {l : List Nat} {f : Nat}, f ≤ aF A 6 0 → zfr A m l f ≤ aF A 6 0 := by
  intro l
  induction l with
  | nil => intro f h; exact h
  | cons x l ih => intro f h; exact ih (zAft_le A h _)
theorem zfr_congr {A : zA} {m m' : Nat → Int} : ∀ {l : List Nat} {f : Nat}, (∀ o, o ∈ l → m o = m' o) → zfr A m l f = zfr A m' l f := by
  intro l
  induction l with
  | nil => intro f h; rfl
  | cons x l ih =>
    intro f h
    show zfr A m l (zAft A f (m x)) = zfr A m' l (zAft A f (m' x))
    rw [h x List.mem_cons_self]
    exact ih (fun o ho => h o (List.mem_cons_of_mem _ ho))
def zmt (x o : Nat) : Int := if o = 0 then (x / 49 % 7 : Nat) - 3 else if o = 1 then (x / 7 % 7 : Nat) - 3 else (x % 7 : Nat) - 3
theorem zmt_e (A : zA) (h : Nat → Option Nat) {o : Nat} (ho : o < 3) : zmt (ztri A h) o = zmv A h o := by
  have h0 := zGo_le A (zStr A h) (aF A 6 2) 0
  have h1 := zGo_le A (zStr A h) (aF A 6 2) 1
  have h2 := zGo_le A (zStr A h) (aF A 6 2) 2
  unfold zmt ztri zmv
  obtain ⟨d0, e0⟩ : ∃ d : Nat, (d : Int) = zGo A (zStr A h) (aF A 6 2) 0 + 3 := ⟨(zGo A (zStr A h) (aF A 6 2) 0 + 3).toNat, by omega⟩
  obtain ⟨d1, e1⟩ : ∃ d : Nat, (d : Int) = zGo A (zStr A h) (aF A 6 2) 1 + 3 := ⟨(zGo A (zStr A h) (aF A 6 2) 1 + 3).toNat, by omega⟩
  obtain ⟨d2, e2⟩ : ∃ d : Nat, (d : Int) = zGo A (zStr A h) (aF A 6 2) 2 + 3 := ⟨(zGo A (zStr A h) (aF A 6 2) 2 + 3).toNat, by omega⟩
  have et : (((zGo A (zStr A h) (aF A 6 2) 0 + 3) * 7 + (zGo A (zStr A h) (aF A 6 2) 1 + 3)) * 7 + (zGo A (zStr A h) (aF A 6 2) 2 + 3)).toNat = (d0 * 7 + d1) * 7 + d2 := by omega
  rw [et]
  rcases (by omega : o = 0 ∨ o = 1 ∨ o = 2) with rfl | rfl | rfl
  · rw [if_pos rfl]
    have : ((d0 * 7 + d1) * 7 + d2) / 49 % 7 = d0 := by omega
    rw [this]; omega
  · rw [if_neg (by decide), if_pos rfl]
    have : ((d0 * 7 + d1) * 7 + d2) / 7 % 7 = d1 := by omega
    rw [this]; omega
  · rw [if_neg (by decide), if_neg (by decide)]
    have : ((d0 * 7 + d1) * 7 + d2) % 7 = d2 := by omega
    rw [this]; omega
def zFs (A : zA) (f w c : Nat) : Nat := ((zWl A).map (fun h => zfr A (zmv A h) (zdg w c) f)).sum
/-- the sum, by what three orders do -/
theorem zsum_if {d : Nat → Nat} {c : Nat → Nat} {y : Nat} : ∀ (tl : List Nat), tl.Nodup → y ∈ tl → (tl.map (fun x => d x * (c x + if y = x then 1 else 0))).sum = (tl.map (fun x => d x * c x)).sum + d y := by
  have hno : ∀ (tl : List Nat), y ∉ tl → (tl.map (fun x => d x * (c x + if y = x then 1 else 0))).sum = (tl.map (fun x => d x * c x)).sum := by
    intro tl
    induction tl with
    | nil => intro _; rfl
    | cons z tl ih =>
      intro h
      rw [List.mem_cons, not_or] at h
      rw [List.map_cons, List.map_cons, List.sum_cons, List.sum_cons, ih h.2, if_neg h.1, Nat.add_zero]
  intro tl
  induction tl with
  | nil => intro _ h; exact absurd h (List.not_mem_nil)
  | cons z tl ih =>
    intro hn h
    rw [List.nodup_cons] at hn
    rw [List.map_cons, List.map_cons, List.sum_cons, List.sum_cons]
    rcases List.mem_cons.mp h with q | q
    · subst q
      rw [hno tl hn.1, if_pos rfl, Nat.mul_add, Nat.mul_one]
      omega
    · have hz : y ≠ z := fun e => hn.1 (e ▸ q)
      rw [ih hn.2 q, if_neg hz, Nat.add_zero]
      omega
theorem zsum_tri {A : zA} (g : Nat → Nat) {tl : List Nat} (hn : tl.Nodup) : ∀ (l : List (Nat → Option Nat)), (∀ h, h ∈ l → ztri A h ∈ tl) → (tl.map (fun x => g x * zcnt A l x)).sum = (l.map (fun h => g (ztri A h))).sum := by
  intro l
  induction l with
  | nil =>
    intro _
    have : (fun x => g x * zcnt A [] x) = fun _ => 0 := by
      funext x
      show g x * 0 = 0
      exact Nat.mul_zero _
    rw [this]
    have z : ∀ tl : List Nat, (tl.map (fun _ => 0)).sum = 0 := by
      intro tl
      induction tl with
      | nil => rfl
      | cons x tl ih => rw [List.map_cons, List.sum_cons, ih]
    exact z tl
  | cons h l ih =>
    intro hl
    have e : ∀ x, zcnt A (h :: l) x = zcnt A l x + if ztri A h = x then 1 else 0 := by
      intro x
      unfold zcnt
      by_cases c : ztri A h = x
      · rw [if_pos c, List.filter_cons_of_pos (by simpa using c)]; rfl
      · rw [if_neg c, List.filter_cons_of_neg (by simpa using c)]; rfl
    rw [show (fun x => g x * zcnt A (h :: l) x) = fun x => g x * (zcnt A l x + if ztri A h = x then 1 else 0) from funext (fun x => by rw [e x])]
    rw [zsum_if tl hn (hl h List.mem_cons_self), ih (fun h' q => hl h' (List.mem_cons_of_mem _ q)), List.map_cons, List.sum_cons]
    omega
theorem zFs_tri {A : zA} {f w c : Nat} {tl : List Nat} (hn : tl.Nodup) (ht : ∀ x, x < 343 → (zcnt A (zWl A) x ≠ 0 ↔ x ∈ tl)) : (tl.map (fun x => zfr A (zmt x) (zdg w c) f * zcnt A (zWl A) x)).sum = zFs A f w c := by
  rw [zsum_tri (A := A) (fun x => zfr A (zmt x) (zdg w c) f) hn (zWl A) (fun h hh => ?_)]
  · unfold zFs
    congr 1
    refine List.map_congr_left (fun h _ => ?_)
    exact zfr_congr (fun o ho => zmt_e A h (zdg_lt w c o ho))
  · refine (ht _ (ztri_lt A h)).mp (fun q => ?_)
    unfold zcnt at q
    rw [List.length_eq_zero_iff, List.filter_eq_nil_iff] at q
    exact q h hh (by simp)
theorem zsum_le {α : Type} {f : α → Nat} {B : Nat} : ∀ (l : List α), (∀ x, x ∈ l → f x ≤ B) → (l.map f).sum ≤ B * l.length := by
  intro l
  induction l with
  | nil => intro _; exact Nat.zero_le _
  | cons x l ih =>
    intro h
    have h1 := ih (fun y hy => h y (List.mem_cons_of_mem _ hy))
    have h2 := h x List.mem_cons_self
    rw [List.map_cons, List.sum_cons, List.length_cons, Nat.mul_succ]
    omega
theorem zFs_le {A : zA} (hw : zAw A) {f w c : Nat} (hf : f ≤ aF A 6 0) : zFs A f w c ≤ 28800 := by
  have h1 := (zWl_len hw).2
  have h2 := zsum_le (f := fun h => zfr A (zmv A h) (zdg w c) f) (B := 40) (zWl A) (fun h _ => by
    have := zfr_le (A := A) (m := zmv A h) (l := zdg w c) hf
    have := hw.2.2.1.2.1
    omega)
  unfold zFs
  omega
/-- the first best -/
def zamx (F : Nat → Nat) : Nat → Nat
  | 0 => 0
  | n + 1 => if F (zamx F n) < F (n + 1) then n + 1 else zamx F n
theorem zam_le (F : Nat → Nat) : ∀ n, zamx F n ≤ n := by
  intro n
  induction n with
  | zero => exact Nat.le_refl _
  | succ n ih =>
    show (if F (zamx F n) < F (n + 1) then n + 1 else zamx F n) ≤ n + 1
    split <;> omega
theorem zdv {a b : Nat} (ha : a < 2147483648) (hb : b < 2147483648) (h0 : 0 < b) : zo_dv (zn a) (zn b) = some (zn (a / b)) := by
  unfold zo_dv
  rw [if_neg (by rw [show (0 : Int32) = zn 0 from rfl, zn_eq hb (by decide)]; omega)]
  have hd : a / b ≤ a := Nat.div_le_self a b
  have hne : zn a ≠ Int32.minValue := by
    intro h; have := congrArg Int32.toInt h; rw [zn_ti ha] at this; have e : Int32.minValue.toInt = -2147483648 := by decide
    omega
  congr 1
  rw [← Int32.toInt_inj, Int32.toInt_div_of_ne_left _ _ hne, zn_ti ha, zn_ti hb, zn_ti (by omega), Int.tdiv_eq_ediv_of_nonneg (by omega)]
  rfl
theorem zlg_le {a b : Nat} (ha : a < 9223372036854775808) (hb : b < 9223372036854775808) : (lg_cmp (zl a) (zl b) ≤ zn 0) ↔ a ≤ b := by
  rw [show zn 0 = (0 : Int32) from rfl, lg_cmp_le, Int64.le_iff_toInt_le, zl_ti ha, zl_ti hb]
  omega
theorem zlg_m1 {a : Nat} (ha : a < 9223372036854775808) : ¬ (lg_cmp (zl a) (-1 : Int64) ≤ zn 0) := by
  rw [show zn 0 = (0 : Int32) from rfl, lg_cmp_le, Int64.le_iff_toInt_le, zl_ti ha]
  have : (-1 : Int64).toInt = -1 := by decide
  omega
