/-! the most that men can come to at posts, given out in any order -/
/-- a sum that can be had: so many men, posts still left -/
def zac (w : Nat → Nat → Nat) : List Nat → (Nat → Prop) → Nat → Prop
  | [], _, s => s = 0
  | m :: ms, L, s => ∃ p, L p ∧ ∃ s', zac w ms (fun q => L q ∧ q ≠ p) s' ∧ s = w m p + s'
theorem zac_iff {w : Nat → Nat → Nat} : ∀ {ms : List Nat} {L L' : Nat → Prop} {s : Nat}, (∀ p, L p ↔ L' p) → zac w ms L s → zac w ms L' s := by
  intro ms
  induction ms with
  | nil => intro L L' s h q; exact q
  | cons m ms ih =>
    rintro L L' s h ⟨p, h1, s', h2, h3⟩
    exact ⟨p, (h p).mp h1, s', ih (fun q => by rw [h q]) h2, h3⟩
theorem zac_swap {w : Nat → Nat → Nat} {a b : Nat} {ms : List Nat} {L : Nat → Prop} {s : Nat} (h : zac w (a :: b :: ms) L s) : zac w (b :: a :: ms) L s := by
  obtain ⟨p, h1, s', ⟨q, ⟨h2, h2'⟩, s'', h3, h4⟩, h5⟩ := h
  refine ⟨q, h2, w a p + s'', ⟨p, ⟨h1, fun e => h2' e.symm⟩, s'', zac_iff (fun x => ?_) h3, rfl⟩, by omega⟩
  constructor
  · rintro ⟨⟨x1, x2⟩, x3⟩; exact ⟨⟨x1, x3⟩, x2⟩
  · rintro ⟨⟨x1, x2⟩, x3⟩; exact ⟨⟨x1, x3⟩, x2⟩
theorem zac_perm {w : Nat → Nat → Nat} {l l' : List Nat} (h : l.Perm l') : ∀ {L : Nat → Prop} {s : Nat}, zac w l L s → zac w l' L s := by
  induction h with
  | nil => intro L s q; exact q
  | cons x h ih =>
    rintro L s ⟨p, h1, s', h2, h3⟩
    exact ⟨p, h1, s', ih h2, h3⟩
  | swap x y l => intro L s q; exact zac_swap q
  | trans h1 h2 ih1 ih2 => intro L s q; exact ih2 (ih1 q)
/-- the most -/
def zmx (w : Nat → Nat → Nat) (ms : List Nat) (L : Nat → Prop) (v : Nat) : Prop := zac w ms L v ∧ ∀ s, zac w ms L s → s ≤ v
theorem zmx_u {w : Nat → Nat → Nat} {l l' : List Nat} {L L' : Nat → Prop} {v v' : Nat} (hp : l.Perm l') (hL : ∀ p, L p ↔ L' p) (h : zmx w l L v) (h' : zmx w l' L' v') : v = v' := by
  have a1 := h'.2 v (zac_perm hp (zac_iff hL h.1))
  have a2 := h.2 v' (zac_perm hp.symm (zac_iff (fun p => (hL p).symm) h'.1))
  omega
theorem zmx_nil (w : Nat → Nat → Nat) (L : Nat → Prop) : zmx w [] L 0 := ⟨rfl, fun s h => Nat.le_of_eq h⟩
/-- the most is bounded -/
theorem zac_le {w : Nat → Nat → Nat} {B : Nat} : ∀ {ms : List Nat} {L : Nat → Prop} {s : Nat}, (∀ m p, m ∈ ms → L p → w m p ≤ B) → zac w ms L s → s ≤ B * ms.length := by
  intro ms
  induction ms with
  | nil => intro L s _ h; rw [show s = 0 from h]; omega
  | cons m ms ih =>
    rintro L s hw ⟨p, h1, s', h2, h3⟩
    have := ih (fun m' p' q1 q2 => hw m' p' (List.mem_cons_of_mem _ q1) q2.1) h2
    have h4 := hw m p List.mem_cons_self h1
    rw [List.length_cons, Nat.mul_succ]
    omega
