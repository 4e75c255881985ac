/-! all that an object knows, and how both sides hold it -/
abbrev zNs : Type := List Nat × List (Nat × Nat)
def zNw (A : zA) (N : zNs) : Prop := N.1.length ≤ 5 ∧ N.2.length ≤ 8 ∧ (∀ x, x ∈ N.1 → x ≤ aF A 6 0) ∧ ∀ x, x ∈ N.2 → x.1 < aM A ∧ x.2 < aP A
def zNc (s : Nat) (I : zII) (N : zNs) : Prop := I s 3 = zn N.1.length ∧ I s 4 = zn N.2.length ∧ (∀ i x, N.1[i]? = some x → I (s + 1) i = zn x) ∧ ∀ i x, N.2[i]? = some x → I (s + 2) i = zn x.1 ∧ I (s + 3) i = zn x.2
def zNm (b : Nat) (I : zII) (N : zNs) : Prop := I 232 (b + 16) = zn N.1.length ∧ I 232 (b + 22) = zn N.2.length ∧ (∀ i x, N.1[i]? = some x → I 232 (b + 17 + i) = zn x) ∧ ∀ i x, N.2[i]? = some x → I 232 (b + 23 + 2 * i) = zn x.1 ∧ I 232 (b + 23 + 2 * i + 1) = zn x.2
/-- marks -/
def zKc (I : zII) (A : zA) (K : Nat → Option (zWs × zNs)) : Prop := (∀ m, m < 4 → zb (I 64 17) m = (K m).isSome) ∧ ∀ m V N, m < 4 → K m = some (V, N) → zVc (188 + 7 * m) I A V ∧ zNc (191 + 7 * m) I N
def zKm (I : zII) (K : Nat → Option (zWs × zNs)) : Prop := (∀ m, m < 4 → I 233 m = zt (K m).isSome) ∧ ∀ m V N, m < 4 → K m = some (V, N) → zVm (40 + 40 * m) I V ∧ zNm (40 + 40 * m) I N
/-- a war -/
abbrev zLn : Type := Nat × Nat × Nat × Nat
def zLw (A : zA) (l : zLn) : Prop := (l.1 = 0 ∧ l.2.1 ≤ 9999) ∨ (l.1 = 1 ∧ l.2.1 < aM A ∧ l.2.2.1 < aM A ∧ l.2.1 ≠ l.2.2.1 ∧ l.2.2.2 ≤ 999) ∨ (l.1 = 2 ∧ l.2.1 < 3) ∨ (l.1 = 3 ∧ 1 ≤ l.2.1 ∧ l.2.1 ≤ 13)
def zWc (w : Nat) (I : zII) (W : List zLn) : Prop := I w 0 = zn W.length ∧ ∀ i l, W[i]? = some l → I (w + 1) i = zn l.1 ∧ I (w + 2) i = zn l.2.1 ∧ (l.1 = 1 → I (w + 3) i = zn l.2.2.1 ∧ I (w + 4) i = zn l.2.2.2)
def zWm (I : zII) (W : List zLn) : Prop := I 229 0 = zn W.length ∧ ∀ i l, W[i]? = some l → I 229 (1 + 4 * i) = zn l.1 ∧ I 229 (2 + 4 * i) = zn l.2.1 ∧ (l.1 = 1 → I 229 (3 + 4 * i) = zn l.2.2.1 ∧ I 229 (4 + 4 * i) = zn l.2.2.2)
/-- signs -/
def zTw (T : List Nat) : Prop := T.length ≤ 1000 ∧ ∀ x, x ∈ T → x = 10 ∨ (32 ≤ x ∧ x ≤ 126)
def zTc (I : zII) (T : List Nat) : Prop := I 65 1 = zn T.length ∧ ∀ i x, T[i]? = some x → I 66 i = zn x
def zTq (I : zII) (T : List Nat) : Prop := I 216 2 = zn T.length ∧ ∀ i x, T[i]? = some x → I 217 i = zn x
/-- words -/
def zcw (b : Nat) : List Nat → Nat → Nat
  | [], a => a
  | x :: l, a => zcw b l (b * a + x)
def zWd (w : List Nat) : Prop := 1 ≤ w.length ∧ w.length ≤ 8 ∧ ∀ x, x ∈ w → 1 ≤ x ∧ x ≤ 26
abbrev zQs : Type := List (List Nat × Nat)
def zQw (A : zA) (Q : zQs) : Prop := Q.length ≤ 12 ∧ (∀ x, x ∈ Q → zWd x.1 ∧ (x.2 < aP A ∨ ∃ m, m < aM A ∧ x.2 = 20 + m)) ∧ (∀ (i j : Nat) (x y : List Nat × Nat), Q[i]? = some x → Q[j]? = some y → x.1 = y.1 ∨ x.2 = y.2 → i = j) ∧ ∀ m, m < aM A → ∃ w, (w, 20 + m) ∈ Q
def zQc (a : Nat) (J : zJJ) (Q : zQs) : Prop := ∀ w m, (w, 20 + m) ∈ Q → J (a + 8) m = zl (zcw 27 w 0)
def zQm (I : zII) (J : zJJ) (Q : zQs) : Prop := I 216 18 = zn Q.length ∧ ∀ i x, Q[i]? = some x → J 225 i = zl (zcw 37 x.1 0) ∧ I 227 i = zn x.2
def zwd37 : List Nat := [831706, 1604747591, 40072202, 17848, 4662264, 31840, 6395136, 12177793, 57, 1402138699, 45076385548, 412258, 36179019, 43890888, 375310, 227314, 969708, 29029848, 43366239, 426207, 839908, 47317195, 325028, 15778433, 687687, 8774, 19741, 1891, 573, 8777609350, 35882198, 628412, 570026, 789229, 3053484035, 1176028]
def zQq (J : zJJ) : Prop := ∀ i x, zwd37[i]? = some x → J 221 i = zl x
/-- all ways to give posts out, in their order -/
def zup (h : Nat → Option Nat) (p : Nat) (x : Option Nat) : Nat → Option Nat := fun q => if q = p then x else h q
def zgv (M : Nat) : Nat → Nat → (Nat → Bool) → Nat → (Nat → Option Nat) → List (Nat → Option Nat)
  | 0, _, _, _, h => [h]
  | n + 1, p, met, e, h => ((List.range M).filter (fun m => !met m)).flatMap (fun m => zgv M n (p + 1) (fun x => met x || x == m) e (zup h p (some m))) ++ (if 0 < e then zgv M n (p + 1) met (e - 1) (zup h p none) else [])
def zWl (A : zA) : List (Nat → Option Nat) := zgv (aM A) (aP A) 0 (fun _ => false) (aP A - aM A) (fun _ => none)
def zWS (A : zA) : Nat := ((zWl A).map (zStr A)).sum
/-- the best of some: its strength, its posts -/
def zbst (A : zA) : List (Nat → Option Nat) → Option (Nat × (Nat → Option Nat)) → Option (Nat × (Nat → Option Nat))
  | [], b => b
  | h :: l, none => zbst A l (some (zStr A h, h))
  | h :: l, some b => zbst A l (if b.1 < zStr A h then some (zStr A h, h) else some b)
/-- what three orders do, as one number -/
def zmv (A : zA) (h : Nat → Option Nat) (o : Nat) : Int := zGo A (zStr A h) (aF A 6 2) o
def ztri (A : zA) (h : Nat → Option Nat) : Nat := (((zmv A h 0 + 3) * 7 + (zmv A h 1 + 3)) * 7 + (zmv A h 2 + 3)).toNat
def zcnt (A : zA) (l : List (Nat → Option Nat)) (x : Nat) : Nat := (l.filter (fun h => ztri A h == x)).length
/-- what the class keeps of the ways, gone through so far -/
def zYs (I : zII) (J : zJJ) (A : zA) (l : List (Nat → Option Nat)) : Prop := I 77 5 = zn l.length ∧ J 77 2 = zl ((l.map (zStr A)).sum) ∧ (match zbst A l none with
    | none => I 77 1 = zN
    | some b => I 77 1 = zn b.1 ∧ ∀ p, p < aP A → I 78 p = z32 (b.2 p)) ∧ ∃ tl : List Nat, I 77 6 = zn tl.length ∧ tl.Nodup ∧ (∀ i x, tl[i]? = some x → I 81 i = zn x) ∧ (∀ x, x ∈ tl → x < 343) ∧ (∀ x, x < 343 → I 82 x = zn (zcnt A l x)) ∧ ∀ x, x < 343 → (zcnt A l x ≠ 0 ↔ x ∈ tl)
def zYc (I : zII) (J : zJJ) (A : zA) : Prop := ∃ kn : Bool, I 77 0 = zt kn ∧ (kn = true → zYs I J A (zWl A))
/-- all of it -/
abbrev zXs : Type := zA × zWs × zNs × List zWs × (Nat → Option (zWs × zNs)) × List zLn × List Nat × zQs
def xA (X : zXs) : zA := X.1
def xV (X : zXs) : zWs := X.2.1
def xN (X : zXs) : zNs := X.2.2.1
def xL (X : zXs) : List zWs := X.2.2.2.1
def xK (X : zXs) : Nat → Option (zWs × zNs) := X.2.2.2.2.1
def xW (X : zXs) : List zLn := X.2.2.2.2.2.1
def xT (X : zXs) : List Nat := X.2.2.2.2.2.2.1
def xQ (X : zXs) : zQs := X.2.2.2.2.2.2.2
def zXw (t : Nat) (X : zXs) : Prop := zAw (xA X) ∧ zVw (xA X) t (xV X) ∧ zNw (xA X) (xN X) ∧ ((xL X).length ≤ 16 ∧ ∀ V, V ∈ xL X → zVw (xA X) t V) ∧ (∀ m V N, xK X m = some (V, N) → zVw (xA X) t V ∧ zNw (xA X) N) ∧ ((xW X).length ≤ 24 ∧ ∀ l, l ∈ xW X → zLw (xA X) l) ∧ zTw (xT X) ∧ zQw (xA X) (xQ X)
def zAB (r : zRr) : Prop := ((r.1 = 96 ∧ r.2.1 = 113) ∨ (r.1 = 113 ∧ r.2.1 = 96)) ∧ ((r.2.2.1 = 130 ∧ r.2.2.2.1 = 135) ∨ (r.2.2.1 = 135 ∧ r.2.2.2.1 = 130))
def zRc (X : zXs) (I : zII) (J : zJJ) (r : zRr) : Prop := zAB r ∧ zAc r.1 I (xA X) ∧ zVc 67 I (xA X) (xV X) ∧ zNc 73 I (xN X) ∧ zPc I (xA X) (xL X) ∧ zKc I (xA X) (xK X) ∧ zWc r.2.2.1 I (xW X) ∧ zTc I (xT X) ∧ zQc r.1 J (xQ X) ∧ zYc I J (xA X)
def zRm (X : zXs) (I : zII) (J : zJJ) : Prop := zAm I (xA X) ∧ zVm 0 I (xV X) ∧ zNm 0 I (xN X) ∧ zPq I (xL X) ∧ zKm I (xK X) ∧ zWm I (xW X) ∧ zTq I (xT X) ∧ zQm I J (xQ X) ∧ zQq J
/-! what may change -/
theorem zVm.rg {b : Nat} {I I' : zII} {V : zWs} (h : zVm b I V) (f : ∀ k, b ≤ k → k < b + 16 → I' 232 k = I 232 k) : zVm b I' V := by
  obtain ⟨h1, h2, h3, h4, h5, h6⟩ := h
  exact ⟨by rw [f _ (by omega) (by omega)]; exact h1, by rw [f _ (by omega) (by omega)]; exact h2, by rw [f _ (by omega) (by omega)]; exact h3, by rw [f _ (by omega) (by omega)]; exact h4, fun p hp => by rw [f _ (by omega) (by omega)]; exact h5 p hp, fun p hp => by rw [f _ (by omega) (by omega)]; exact h6 p hp⟩
section ZF
variable {I I' : zII} {J J' : zJJ} {r : zRr} {A : zA} {X : zXs}
theorem zNc.fr {s : Nat} {N : zNs} (h : zNc s I N) (h0 : I' s = I s) (h1 : I' (s + 1) = I (s + 1)) (h2 : I' (s + 2) = I (s + 2)) (h3 : I' (s + 3) = I (s + 3)) : zNc s I' N := by
  unfold zNc at *
  rw [h0, h1, h2, h3]
  exact h
theorem zNm.fr {b : Nat} {N : zNs} (h : zNm b I N) (hN : N.1.length ≤ 5) (hN2 : N.2.length ≤ 8) (h0 : ∀ k, b + 16 ≤ k → k < b + 40 → I' 232 k = I 232 k) : zNm b I' N := by
  obtain ⟨a1, a2, a3, a4⟩ := h
  refine ⟨by rw [h0 _ (by omega) (by omega)]; exact a1, by rw [h0 _ (by omega) (by omega)]; exact a2, fun i x hx => ?_, fun i x hx => ?_⟩
  · have := (List.getElem?_eq_some_iff.mp hx).1
    rw [h0 _ (by omega) (by omega)]; exact a3 i x hx
  · have := (List.getElem?_eq_some_iff.mp hx).1
    rw [h0 _ (by omega) (by omega), h0 _ (by omega) (by omega)]; exact a4 i x hx
theorem zAm.fr2 (h : zAm I A) (hw : zAw A) (h1 : ∀ k, k < 50 → I' 222 k = I 222 k) (h2 : ∀ k, k < 1100 → I' 223 k = I 223 k) (h3 : ∀ k, k < 1100 → I' 224 k = I 224 k) : zAm I' A := by
  obtain ⟨a1, a2, a3, a4, a5, a6⟩ := h
  have hP := hw.1
  have hM := hw.2.1
  refine ⟨by rw [h1 _ (by omega)]; exact a1, by rw [h1 _ (by omega)]; exact a2, fun i hi => by rw [h1 _ (by omega)]; exact a3 i hi, fun p hp => ?_, fun i m hi hm => by rw [h1 _ (by omega)]; exact a5 i m hi hm, fun q hq => ?_⟩
  · rw [h1 _ (by omega), h1 _ (by omega), h1 _ (by omega)]; exact a4 p hp
  · have := a6 q hq
    cases hc : aC A q with
    | none => rw [hc] at this; show I' 222 (7 + q) = zN; rw [h1 _ (by omega)]; exact this
    | some l =>
      rw [hc] at this
      obtain ⟨b, b1, b2, b3, b4⟩ := this
      refine ⟨b, by rw [h1 _ (by omega)]; exact b1, b2, by rw [h2 _ (by omega)]; exact b3, fun j c hj => ?_⟩
      have hj2 := (List.getElem?_eq_some_iff.mp hj).1
      rw [h2 _ (by omega), h3 _ (by omega)]
      exact b4 j c hj
/-- rows that the class uses up -/
def zsC (o : Nat) : Prop := (70 ≤ o ∧ o ≤ 72) ∨ (84 ≤ o ∧ o ≤ 91) ∨ o = 95 ∨ o = 111 ∨ o = 112 ∨ o = 128 ∨ o = 129
theorem zRc.fr (h : zRc X I J r) (hI : ∀ o, 64 ≤ o → o < 216 → ¬ zsC o → I' o = I o) (hJ : ∀ o, 64 ≤ o → o < 216 → o ≠ 90 → J' o = J o) : zRc X I' J' r := by
  obtain ⟨h1, h2, h3, h4, h5, h6, h7, h8, h9, h10⟩ := h
  have ra : r.1 = 96 ∨ r.1 = 113 := by rcases h1.1 with q | q <;> omega
  have rw' : r.2.2.1 = 130 ∨ r.2.2.1 = 135 := by rcases h1.2 with q | q <;> omega
  refine ⟨h1, h2.fr (fun o q1 q2 => hI o (by omega) (by omega) (by unfold zsC; omega)), h3.fr (hI _ (by omega) (by omega) (by unfold zsC; omega)) (hI _ (by omega) (by omega) (by unfold zsC; omega)) (hI _ (by omega) (by omega) (by unfold zsC; omega)), h4.fr (hI _ (by omega) (by omega) (by unfold zsC; omega)) (hI _ (by omega) (by omega) (by unfold zsC; omega)) (hI _ (by omega) (by omega) (by unfold zsC; omega)) (hI _ (by omega) (by omega) (by unfold zsC; omega)), h5.fr (by rw [hI 64 (by omega) (by omega) (by unfold zsC; omega)]) (by rw [hI 64 (by omega) (by omega) (by unfold zsC; omega)]) (fun o q1 q2 => hI o (by omega) (by omega) (by unfold zsC; omega)), ⟨?_, fun m V N hm hK => ?_⟩, ?_, ?_, ?_, ?_⟩
  · rw [hI 64 (by omega) (by omega) (by unfold zsC; omega)]; exact h6.1
  · obtain ⟨q1, q2⟩ := h6.2 m V N hm hK
    exact ⟨q1.fr (hI _ (by omega) (by omega) (by unfold zsC; omega)) (hI _ (by omega) (by omega) (by unfold zsC; omega)) (hI _ (by omega) (by omega) (by unfold zsC; omega)), q2.fr (hI _ (by omega) (by omega) (by unfold zsC; omega)) (hI _ (by omega) (by omega) (by unfold zsC; omega)) (hI _ (by omega) (by omega) (by unfold zsC; omega)) (hI _ (by omega) (by omega) (by unfold zsC; omega))⟩
  · unfold zWc at *
    rw [hI r.2.2.1 (by omega) (by omega) (by unfold zsC; omega), hI (r.2.2.1 + 1) (by omega) (by omega) (by unfold zsC; omega), hI (r.2.2.1 + 2) (by omega) (by omega) (by unfold zsC; omega), hI (r.2.2.1 + 3) (by omega) (by omega) (by unfold zsC; omega), hI (r.2.2.1 + 4) (by omega) (by omega) (by unfold zsC; omega)]
    exact h7
  · unfold zTc at *
    rw [hI 65 (by omega) (by omega) (by unfold zsC; omega), hI 66 (by omega) (by omega) (by unfold zsC; omega)]
    exact h8
  · unfold zQc at *
    rw [hJ (r.1 + 8) (by omega) (by omega) (by omega)]
    exact h9
  · unfold zYc zYs at *
    rw [hI 77 (by omega) (by omega) (by unfold zsC; omega), hI 78 (by omega) (by omega) (by unfold zsC; omega), hI 81 (by omega) (by omega) (by unfold zsC; omega), hI 82 (by omega) (by omega) (by unfold zsC; omega), hJ 77 (by omega) (by omega) (by omega)]
    exact h10
/-- rows that the reference uses up -/
theorem zRm.fr {t : Nat} (hX : zXw t X) (h : zRm X I J) (h0 : ∀ k, k = 2 ∨ k = 18 ∨ k = 26 → I' 216 k = I 216 k) (h1 : I' 217 = I 217) (h2 : ∀ k, k < 50 → I' 222 k = I 222 k) (h3 : ∀ k, k < 1100 → I' 223 k = I 223 k) (h4 : ∀ k, k < 1100 → I' 224 k = I 224 k) (h5 : I' 227 = I 227) (h6 : ∀ k, k < 110 → I' 229 k = I 229 k) (h7 : ∀ k, k < 840 → I' 232 k = I 232 k) (h8 : I' 233 = I 233) (j1 : J' 221 = J 221) (j2 : J' 225 = J 225) : zRm X I' J' := by
  obtain ⟨g1, g2, g3, g4, g5, g6, g7, g8, g9⟩ := h
  obtain ⟨x1, x2, x3, ⟨x4, x4'⟩, x5, ⟨x6, x6'⟩, x7, x8⟩ := hX
  refine ⟨g1.fr2 x1 h2 h3 h4, g2.rg (fun k q1 q2 => h7 k (by omega)), g3.fr x3.1 x3.2.1 (fun k q1 q2 => h7 k (by omega)), ⟨?_, fun i V hV => ?_⟩, ⟨fun m hm => by rw [h8]; exact g5.1 m hm, fun m V N hm hK => ?_⟩, ⟨?_, fun i l hl => ?_⟩, ⟨?_, ?_⟩, ⟨?_, ?_⟩, ?_⟩
  · rw [h0 26 (by omega)]; exact g4.1
  · have hi := (List.getElem?_eq_some_iff.mp hV).1
    exact (g4.2 i V hV).rg (fun k q1 q2 => h7 k (by omega))
  · obtain ⟨q1, q2⟩ := g5.2 m V N hm hK
    have hN := (x5 m V N hK).2
    exact ⟨q1.rg (fun k w1 w2 => h7 k (by omega)), q2.fr hN.1 hN.2.1 (fun k w1 w2 => h7 k (by omega))⟩
  · rw [h6 0 (by omega)]; exact g6.1
  · have hi := (List.getElem?_eq_some_iff.mp hl).1
    rw [h6 _ (by omega), h6 _ (by omega), h6 _ (by omega), h6 _ (by omega)]
    exact g6.2 i l hl
  · rw [h0 2 (by omega)]; exact g7.1
  · rw [h1]; exact g7.2
  · rw [h0 18 (by omega)]; exact g8.1
  · rw [h5, j2]; exact g8.2
  · unfold zQq at *
    rw [j1]; exact g9
end ZF
