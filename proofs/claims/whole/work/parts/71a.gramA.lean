/-! armies as told: what they come to (draft: never built) -/
def zA0 : zA := (0, 0, fun i j => if i = 6 then (if j = 0 then 10 else if j = 1 then 5 else if j = 2 then 20 else if j = 3 then 13 else 3) else 0, fun _ => none, fun _ => none)
/-- an army so far, names in the order told (posts by number, men from 20 on), lines told once (the class's order: skill, worth, goes, front, theirs, quarter, heed) -/
abbrev zDft : Type := zA × zQs × (Nat → Bool)
def zAp (A : zA) (kd wg : Nat) (un : Option Nat) : zA := (aP A + 1, aM A, fun i j => if i = 0 ∧ j = aP A then kd else if i = 1 ∧ j = aP A then wg else aF A i j, fun p => if p = aP A then un else aU A p, aC A)
def zAn (A : zA) (br wt co : Nat) : zA := (aP A, aM A + 1, fun i j => if i = 3 ∧ j = aM A then br else if i = 4 ∧ j = aM A then wt else if i = 5 ∧ j = aM A then co else aF A i j, aU A, aC A)
def zAf (A : zA) (j x : Nat) : zA := (aP A, aM A, fun i' j' => if i' = 6 ∧ j' = j then x else aF A i' j', aU A, aC A)
def zAl (A : zA) (q : Nat) (l : zCo) : zA := (aP A, aM A, aF A, aU A, fun q' => if q' = q then some l else aC A q')
/-- a new name -/
def znn (Q : zQs) (N : Nat) (L : List zTo) : Except Nat (List zTo × List Nat) := if znm L then (match zqv Q (zPay L) with
    | some _ => .error (zer 3 N L)
    | none => .ok (L.tail, zPay L)) else .error (zer 1 N L)
/-- a post told before -/
def zun2 (Q : zQs) (N : Nat) (L : List zTo) : Except Nat (List zTo × Nat) := if znm L then (match zqv Q (zPay L) with
    | some y => if y < 20 then .ok (L.tail, y) else .error (zer 2 N L)
    | none => .error (zer 2 N L)) else .error (zer 1 N L)
def zpo (N : Nat) (D : zDft) (L : List zTo) : Except Nat (List zTo × zDft) := if 6 ≤ aP D.1 then .error (zer 5 N L) else zbn (znn D.2.1 N L.tail) (fun L1 nm => zbn (zwq N 4 L1) (fun L2 kd => zbn (zwo N 2 L2) (fun L3 _ => zbn (znb N 1 9 L3) (fun L4 wg => if zws L4 = some 3 then zbn (zun2 D.2.1 N L4.tail) (fun L5 u => .ok (L5, (zAp D.1 kd wg (some u), D.2.1 ++ [(nm, aP D.1)], D.2.2))) else .ok (L4, (zAp D.1 kd wg none, D.2.1 ++ [(nm, aP D.1)], D.2.2))))))
def zma (N : Nat) (D : zDft) (L : List zTo) : Except Nat (List zTo × zDft) := if 6 ≤ aM D.1 then .error (zer 5 N L) else zbn (znn D.2.1 N L.tail) (fun L1 nm => zbn (zwo N 4 L1) (fun L2 _ => zbn (znb N 0 9 L2) (fun L3 br => zbn (zwo N 5 L3) (fun L4 _ => zbn (znb N 0 9 L4) (fun L5 wt => zbn (zwo N 6 L5) (fun L6 _ => zbn (znb N 0 999 L6) (fun L7 co => .ok (L7, (zAn D.1 br wt co, D.2.1 ++ [(nm, 20 + aM D.1)], D.2.2)))))))))
def zon (N i : Nat) (D : zDft) (L : List zTo) : Except Nat (List zTo × zDft) :=
  if i < 3 then zbn (zall (decide (i = 2)) N 5 L) (fun L1 c => .ok (L1, (zAl D.1 i c, D.2)))
  else if i = 3 then zbn (znb N 4 40 L) (fun L1 ce => zbn (zwo N 7 L1) (fun L2 _ => zbn (znb N 1 (ce - 1) L2) (fun L3 st => .ok (L3, (zAf (zAf D.1 0 ce) 1 st, D.2)))))
  else if i = 4 then zbn (znb N 0 999 L) (fun L1 x => .ok (L1, (zAf D.1 2 x, D.2)))
  else if i = 5 then zbn (znb N 1 13 L) (fun L1 x => .ok (L1, (zAf D.1 3 x, D.2)))
  else zbn (znb N 0 99 L) (fun L1 x => .ok (L1, (zAf D.1 4 x, D.2)))
def zal0 (N : Nat) (D : zDft) (L : List zTo) : Except Nat (List zTo × zDft) :=
  if zws L = some 0 then zpo N D L
  else if zws L = some 1 then zma N D L
  else match zwh L 1 with
    | none => .error (zer 1 N L)
    | some i => if D.2.2 i then .error (zer 3 N L) else zon N i (D.1, D.2.1, fun j => D.2.2 j || j == i) L.tail
def zal (N : Nat) (D : zDft) (L : List zTo) : Except Nat (List zTo × zDft) := zbn (zal0 N D L) (fun L1 D1 => zbn (zsi N 59 L1) (fun L2 _ => .ok (L2, D1)))
def zalp (N : Nat) : Nat → zDft → List zTo → Except Nat zDft
  | 0, D, _ => .ok D
  | f + 1, D, L => match L with
    | [] => .ok D
    | t :: M => match zal N D (t :: M) with
      | .error F => .error F
      | .ok p => zalp N f p.2 p.1
/-- what holds of a draft -/
def zDw (D : zDft) : Prop := zAw D.1 ∧ zQw D.1 D.2.1 ∧ (∀ p, p < aP D.1 → ∃ w, (w, p) ∈ D.2.1) ∧ D.2.1.length = aP D.1 + aM D.1
theorem zall_d {q : Bool} {N : Nat} {L L' : List zTo} {c : zCo} (hg : zgt L) (h : zall q N 5 L = .ok (L', c)) : lok (if q then 3 else 4) c 0 ∧ zgt L' := by
  have chain : ∀ (B : Nat) (op : List zTo → Option Nat), (op = zop6 ∨ op = zop45 ∨ op = zop9 ∨ op = zop78) → ∀ sub : List zTo → zPR, (∀ L L' c, zgt L → sub L = .ok (L', c) → zcdd (if q then 3 else 4) c B ∧ zgt L') → ∀ n L L' c' c, zgt L → zchn op sub n L = .ok (L', c') → zcdd (if q then 3 else 4) c (B + 1) → zcdd (if q then 3 else 4) (c ++ c') (B + 1) ∧ zgt L' := by
    intro B op ho sub hs n
    induction n with
    | zero =>
      intro L L' c' c hg h hc
      cases h
      rw [List.append_nil]; exact ⟨hc, hg⟩
    | succ n ih =>
      intro L L' c' c hg h hc
      have h' : (match op L with | none => (.ok (L, []) : zPR) | some o => zbd (sub L.tail) (fun L' c => zbd (zchn op sub n L') (fun L'' c' => .ok (L'', c ++ [(o, 0)] ++ c')))) = .ok (L', c') := h
      cases hz : op L with
      | none => rw [hz] at h'; cases h'; rw [List.append_nil]; exact ⟨hc, hg⟩
      | some o =>
        rw [hz] at h'
        obtain ⟨L1, c1, e1, e2⟩ := zbd_ok h'
        obtain ⟨L2, c2, e3, e4⟩ := zbd_ok e2
        cases e4
        obtain ⟨s1, s2⟩ := hs _ _ _ (zgt_t hg) e1
        have g := ih _ _ _ (c ++ c1 ++ [(o, 0)]) s2 e3 (zcd_bin hc s1 (zop_o ho hz) (Nat.le_refl _))
        rw [show c ++ (c1 ++ [(o, 0)] ++ c2) = c ++ c1 ++ [(o, 0)] ++ c2 from by simp only [List.append_assoc]]
        exact g
  have level : ∀ (B : Nat) (op : List zTo → Option Nat), (op = zop6 ∨ op = zop45 ∨ op = zop9 ∨ op = zop78) → ∀ sub : List zTo → zPR, (∀ L L' c, zgt L → sub L = .ok (L', c) → zcdd (if q then 3 else 4) c B ∧ zgt L') → ∀ L L' c, zgt L → zlv op sub L = .ok (L', c) → zcdd (if q then 3 else 4) c (B + 1) ∧ zgt L' := by
    intro B op ho sub hs L L' c hg h
    obtain ⟨L1, c1, e1, e2⟩ := zbd_ok h
    obtain ⟨L2, c2, e3, e4⟩ := zbd_ok e2
    cases e4
    obtain ⟨s1, s2⟩ := hs _ _ _ hg e1
    exact chain B op ho sub hs _ _ _ _ _ s2 e3 (zcd_mono s1 (by omega))
  have tst : ∀ (B : Nat), ∀ sub : List zTo → zPR, (∀ L L' c, zgt L → sub L = .ok (L', c) → zcdd (if q then 3 else 4) c B ∧ zgt L') → ∀ L L' c, zgt L → zts sub L = .ok (L', c) → zcdd (if q then 3 else 4) c (B + 1) ∧ zgt L' := by
    intro B sub hs L L' c hg h
    obtain ⟨L1, c1, e1, e2⟩ := zbd_ok h
    obtain ⟨s1, s2⟩ := hs _ _ _ hg e1
    cases hz : zop78 L1 with
    | none => rw [hz] at e2; cases e2; exact ⟨zcd_mono s1 (by omega), s2⟩
    | some o =>
      rw [hz] at e2
      obtain ⟨L2, c2, e3, e4⟩ := zbd_ok e2
      cases e4
      obtain ⟨s3, s4⟩ := hs _ _ _ (zgt_t s2) e3
      exact ⟨zcd_bin s1 s3 (zop_o (op := zop78) (by simp) hz) (by omega), s4⟩
  obtain ⟨s1, s2⟩ := level _ zop9 (by simp) _ (tst _ _ (level _ zop45 (by simp) _ (level _ zop6 (by simp) _ (zcd_all (q := q) (N := N) 5)))) L L' c hg h
  refine ⟨?_, s2⟩
  have := s1 [] 0 (by decide) rfl
  rw [List.append_nil] at this
  exact this
/-- a name more -/
theorem zQn_u {A : zA} {Q : zQs} (hQ : zQw A Q) {w : List Nat} {y : Nat} (hw : zqv Q w = none) (hy : ∀ x, x ∈ Q → x.2 ≠ y) : ∀ (i j : Nat) (x z : List Nat × Nat), (Q ++ [(w, y)])[i]? = some x → (Q ++ [(w, y)])[j]? = some z → x.1 = z.1 ∨ x.2 = z.2 → i = j := by
  have key : ∀ i x, (Q ++ [(w, y)])[i]? = some x → (i < Q.length ∧ Q[i]? = some x) ∨ (i = Q.length ∧ x = (w, y)) := by
    intro i x h
    rcases Nat.lt_trichotomy i Q.length with q | q | q
    · rw [List.getElem?_append_left q] at h
      exact Or.inl ⟨q, h⟩
    · subst q
      rw [List.getElem?_append_right (Nat.le_refl _), Nat.sub_self] at h
      exact Or.inr ⟨rfl, (Option.some.inj h).symm⟩
    · rw [List.getElem?_append_right (by omega)] at h
      have := (List.getElem?_eq_some_iff.mp h).1
      rw [List.length_singleton] at this
      omega
  intro i j x z hi hj hxz
  rcases key i x hi with ⟨i1, i2⟩ | ⟨i1, i2⟩
  · rcases key j z hj with ⟨j1, j2⟩ | ⟨j1, j2⟩
    · exact hQ.2.2.1 i j x z i2 j2 hxz
    · exfalso
      subst j2
      have hm := List.mem_of_getElem? i2
      rcases hxz with q | q
      · have : (w, x.2) ∈ Q := by have q' : x.1 = w := q; rw [← q']; exact hm
        exact zqv_n hw _ this
      · exact hy x hm q
  · rcases key j z hj with ⟨j1, j2⟩ | ⟨j1, j2⟩
    · exfalso
      subst i2
      have hm := List.mem_of_getElem? j2
      rcases hxz with q | q
      · have : (w, z.2) ∈ Q := by have q' : w = z.1 := q; rw [q']; exact hm
        exact zqv_n hw _ this
      · exact hy z hm q.symm
    · omega
theorem zDw_post {A : zA} {Q : zQs} {tl : Nat → Bool} (h : zDw (A, Q, tl)) (hP : aP A < 6) {kd wg : Nat} {un : Option Nat} {w : List Nat} (h1 : kd ≤ 3) (h2 : 1 ≤ wg) (h3 : wg ≤ 9) (h4 : ∀ u, un = some u → u < aP A) (h5 : zWd w) (h6 : zqv Q w = none) : zDw (zAp A kd wg un, Q ++ [(w, aP A)], tl) := by
  obtain ⟨⟨w1, w2, w3, w4, w5, w6⟩, ⟨q1, q2, q3, q4⟩, d3, d4⟩ := h
  dsimp only at w1 w2 w3 w4 w5 w6 q1 q2 q3 q4 d3 d4
  have eF : ∀ i j, aF (zAp A kd wg un) i j = if i = 0 ∧ j = aP A then kd else if i = 1 ∧ j = aP A then wg else aF A i j := fun i j => rfl
  have eP : aP (zAp A kd wg un) = aP A + 1 := rfl
  have eM : aM (zAp A kd wg un) = aM A := rfl
  have eU : ∀ p, aU (zAp A kd wg un) p = if p = aP A then un else aU A p := fun p => rfl
  have eC : aC (zAp A kd wg un) = aC A := rfl
  have e6 : ∀ i j, 2 ≤ i → aF (zAp A kd wg un) i j = aF A i j := fun i j hi => by rw [eF, if_neg (by omega), if_neg (by omega)]
  have hlen : (Q ++ [(w, aP A)]).length = Q.length + 1 := by rw [List.length_append]; rfl
  refine ⟨⟨by rw [eP]; omega, w2, ?_, fun p hp => ?_, fun m hm => ?_, fun q hq l hl => w6 q hq l hl⟩, ⟨?_, fun x hx => ?_, ?_, fun m hm => ?_⟩, fun p hp => ?_, ?_⟩
  · rw [e6 6 0 (by decide), e6 6 1 (by decide), e6 6 2 (by decide), e6 6 3 (by decide), e6 6 4 (by decide)]; exact w3
  · rw [eP] at hp
    rw [eF, eF, eU]
    by_cases c : p = aP A
    · rw [if_pos ⟨rfl, c⟩, if_neg (by omega), if_pos ⟨rfl, c⟩, if_pos c]
      exact ⟨h1, h2, h3, fun u hu => by rw [c]; exact h4 u hu⟩
    · rw [if_neg (fun z => c z.2), if_neg (by omega), if_neg (by omega), if_neg (fun z => c z.2), if_neg c]
      exact w4 p (by omega)
  · rw [e6 3 m (by decide), e6 4 m (by decide), e6 5 m (by decide)]; exact w5 m hm
  · show (Q ++ [(w, aP A)]).length ≤ 12
    rw [hlen]; omega
  · show zWd x.1 ∧ (x.2 < aP A + 1 ∨ ∃ m, m < aM A ∧ x.2 = 20 + m)
    rcases List.mem_append.mp hx with g | g
    · obtain ⟨g1, g2⟩ := q2 x g
      refine ⟨g1, ?_⟩
      rcases g2 with g2 | g2
      · exact Or.inl (by omega)
      · exact Or.inr g2
    · rw [List.mem_singleton] at g
      subst g
      exact ⟨h5, Or.inl (Nat.lt_succ_self _)⟩
  · refine zQn_u (A := A) ⟨q1, q2, q3, q4⟩ h6 (fun x hx => ?_)
    rcases (q2 x hx).2 with g | ⟨m, g1, g2⟩
    · omega
    · omega
  · obtain ⟨w', hw'⟩ := q4 m hm
    exact ⟨w', List.mem_append_left _ hw'⟩
  · have hp' : p < aP A + 1 := hp
    by_cases c : p = aP A
    · exact ⟨w, List.mem_append_right _ (by rw [c]; exact List.mem_cons_self)⟩
    · obtain ⟨w', hw'⟩ := d3 p (by omega)
      exact ⟨w', List.mem_append_left _ hw'⟩
  · show (Q ++ [(w, aP A)]).length = aP A + 1 + aM A
    rw [hlen]; omega
theorem zDw_man {A : zA} {Q : zQs} {tl : Nat → Bool} (h : zDw (A, Q, tl)) (hM : aM A < 6) {br wt co : Nat} {w : List Nat} (h1 : br ≤ 9) (h2 : wt ≤ 9) (h3 : co ≤ 999) (h5 : zWd w) (h6 : zqv Q w = none) : zDw (zAn A br wt co, Q ++ [(w, 20 + aM A)], tl) := by
  obtain ⟨⟨w1, w2, w3, w4, w5, w6⟩, ⟨q1, q2, q3, q4⟩, d3, d4⟩ := h
  dsimp only at w1 w2 w3 w4 w5 w6 q1 q2 q3 q4 d3 d4
  have eF : ∀ i j, aF (zAn A br wt co) i j = if i = 3 ∧ j = aM A then br else if i = 4 ∧ j = aM A then wt else if i = 5 ∧ j = aM A then co else aF A i j := fun i j => rfl
  have e6 : ∀ i j, i < 3 ∨ 6 ≤ i → aF (zAn A br wt co) i j = aF A i j := fun i j hi => by rw [eF, if_neg (by omega), if_neg (by omega), if_neg (by omega)]
  have hlen : (Q ++ [(w, 20 + aM A)]).length = Q.length + 1 := by rw [List.length_append]; rfl
  refine ⟨⟨w1, (show aM A + 1 ≤ 6 by omega), ?_, fun p hp => ?_, fun m hm => ?_, fun q hq l hl => w6 q hq l hl⟩, ⟨?_, fun x hx => ?_, ?_, fun m hm => ?_⟩, fun p hp => ?_, ?_⟩
  · rw [e6 6 0 (by decide), e6 6 1 (by decide), e6 6 2 (by decide), e6 6 3 (by decide), e6 6 4 (by decide)]; exact w3
  · rw [e6 0 p (by decide), e6 1 p (by decide)]
    exact w4 p hp
  · have hm' : m < aM A + 1 := hm
    rw [eF, eF, eF]
    by_cases c : m = aM A
    · rw [if_pos ⟨rfl, c⟩, if_neg (by omega), if_pos ⟨rfl, c⟩, if_neg (by omega), if_neg (by omega), if_pos ⟨rfl, c⟩]
      exact ⟨h1, h2, h3⟩
    · rw [if_neg (by omega), if_neg (by omega), if_neg (by omega), if_neg (by omega), if_neg (by omega), if_neg (by omega), if_neg (by omega), if_neg (by omega), if_neg (by omega)]
      exact w5 m (by omega)
  · show (Q ++ [(w, 20 + aM A)]).length ≤ 12
    rw [hlen]; omega
  · show zWd x.1 ∧ (x.2 < aP A ∨ ∃ m, m < aM A + 1 ∧ x.2 = 20 + m)
    rcases List.mem_append.mp hx with g | g
    · obtain ⟨g1, g2⟩ := q2 x g
      refine ⟨g1, ?_⟩
      rcases g2 with g2 | ⟨m, g2, g3⟩
      · exact Or.inl g2
      · exact Or.inr ⟨m, by omega, g3⟩
    · rw [List.mem_singleton] at g
      subst g
      exact ⟨h5, Or.inr ⟨aM A, Nat.lt_succ_self _, rfl⟩⟩
  · refine zQn_u (A := A) ⟨q1, q2, q3, q4⟩ h6 (fun x hx => ?_)
    rcases (q2 x hx).2 with g | ⟨m, g1, g2⟩
    · omega
    · omega
  · have hm' : m < aM A + 1 := hm
    by_cases c : m = aM A
    · exact ⟨w, List.mem_append_right _ (by rw [c]; exact List.mem_cons_self)⟩
    · obtain ⟨w', hw'⟩ := q4 m (by omega)
      exact ⟨w', List.mem_append_left _ hw'⟩
  · obtain ⟨w', hw'⟩ := d3 p hp
    exact ⟨w', List.mem_append_left _ hw'⟩
  · show (Q ++ [(w, 20 + aM A)]).length = aP A + (aM A + 1)
    rw [hlen]; omega
theorem zDw_law {A : zA} {Q : zQs} {tl tl' : Nat → Bool} (h : zDw (A, Q, tl)) {q : Nat} {l : zCo} (hl : lok (if q = 2 then 3 else 4) l 0) : zDw (zAl A q l, Q, tl') := by
  obtain ⟨⟨w1, w2, w3, w4, w5, w6⟩, hQ, d3, d4⟩ := h
  refine ⟨⟨w1, w2, w3, w4, w5, fun q' hq' l' hl' => ?_⟩, hQ, d3, d4⟩
  have e : aC (zAl A q l) q' = if q' = q then some l else aC A q' := rfl
  dsimp only at hl'
  rw [e] at hl'
  by_cases c : q' = q
  · rw [if_pos c] at hl'
    have := Option.some.inj hl'
    rw [← this, c]
    exact hl
  · rw [if_neg c] at hl'
    exact w6 q' hq' l' hl'
theorem zDw_f {A A' : zA} {Q : zQs} {tl tl' : Nat → Bool} (h : zDw (A, Q, tl)) (e1 : aP A' = aP A) (e2 : aM A' = aM A) (e3 : ∀ i j, i ≠ 6 → aF A' i j = aF A i j) (e4 : aU A' = aU A) (e5 : aC A' = aC A) (h6 : 4 ≤ aF A' 6 0 ∧ aF A' 6 0 ≤ 40 ∧ 1 ≤ aF A' 6 1 ∧ aF A' 6 1 < aF A' 6 0 ∧ aF A' 6 2 ≤ 999 ∧ 1 ≤ aF A' 6 3 ∧ aF A' 6 3 ≤ 13 ∧ aF A' 6 4 ≤ 99) : zDw (A', Q, tl') := by
  obtain ⟨⟨w1, w2, w3, w4, w5, w6⟩, ⟨q1, q2, q3, q4⟩, d3, d4⟩ := h
  dsimp only at w1 w2 w3 w4 w5 w6 q1 q2 q3 q4 d3 d4
  refine ⟨⟨?_, ?_, h6, fun p hp => ?_, fun m hm => ?_, fun q hq l hl => ?_⟩, ⟨q1, fun x hx => ?_, q3, fun m hm => ?_⟩, fun p hp => ?_, ?_⟩
  · show aP A' ≤ 6; rw [e1]; exact w1
  · show aM A' ≤ 6; rw [e2]; exact w2
  · dsimp only at hp ⊢
    rw [e1] at hp
    rw [e3 _ _ (by decide), e3 _ _ (by decide), e4]
    exact w4 p hp
  · dsimp only at hm ⊢
    rw [e2] at hm
    rw [e3 _ _ (by decide), e3 _ _ (by decide), e3 _ _ (by decide)]
    exact w5 m hm
  · dsimp only at hl
    rw [e5] at hl
    exact w6 q hq l hl
  · show zWd x.1 ∧ (x.2 < aP A' ∨ ∃ m, m < aM A' ∧ x.2 = 20 + m)
    rw [e1, e2]; exact q2 x hx
  · dsimp only at hm ⊢
    rw [e2] at hm; exact q4 m hm
  · dsimp only at hp ⊢
    rw [e1] at hp; exact d3 p hp
  · show Q.length = aP A' + aM A'
    rw [e1, e2]; exact d4
theorem zDw_0 : zDw (zA0, [], fun _ => false) := by
  refine ⟨⟨by decide, by decide, by decide, fun p hp => ?_, fun m hm => ?_, fun q hq l hl => ?_⟩, ⟨by decide, (fun x hx => by cases hx), (fun i j x y hi => by cases hi), fun m hm => ?_⟩, fun p hp => ?_, rfl⟩
  · exact absurd hp (by show ¬ p < 0; omega)
  · exact absurd hm (by show ¬ m < 0; omega)
  · cases hl
  · exact absurd hm (by show ¬ m < 0; omega)
  · exact absurd hp (by show ¬ p < 0; omega)
theorem zwo_inv {N i : Nat} {L L' : List zTo} {x : Unit} (h : zwo N i L = .ok (L', x)) : zws L = some i ∧ L' = L.tail := by
  unfold zwo at h
  by_cases c : zws L = some i
  · rw [if_pos c] at h; cases h; exact ⟨c, rfl⟩
  · rw [if_neg c] at h; cases h
theorem zsi_inv {N c : Nat} {L L' : List zTo} {x : Unit} (h : zsi N c L = .ok (L', x)) : zis L c = true ∧ L' = L.tail := by
  unfold zsi at h
  cases hz : zis L c with
  | true => rw [hz, if_pos rfl] at h; cases h; exact ⟨rfl, rfl⟩
  | false => rw [hz, if_neg (by decide)] at h; cases h
theorem znm_g {L : List zTo} (hg : zgt L) (h : znm L = true) : zWd (zPay L) := by
  cases L with
  | nil => cases h
  | cons t M =>
    unfold znm at h
    rw [Bool.and_eq_true] at h
    have h1 := of_decide_eq_true h.1
    rcases (hg t List.mem_cons_self).2 with ⟨_, g⟩ | ⟨g, _⟩ | ⟨g, _⟩ | g
    · exact g
    · omega
    · omega
    · omega
theorem znn_inv {Q : zQs} {N : Nat} {L L' : List zTo} {w : List Nat} (h : znn Q N L = .ok (L', w)) : znm L = true ∧ w = zPay L ∧ zqv Q w = none ∧ L' = L.tail := by
  unfold znn at h
  cases hz : znm L with
  | false => rw [hz, if_neg (by decide)] at h; cases h
  | true =>
    rw [hz, if_pos rfl] at h
    cases hq : zqv Q (zPay L) with
    | some y => rw [hq] at h; cases h
    | none => rw [hq] at h; cases h; exact ⟨rfl, rfl, hq, rfl⟩
theorem zun2_inv {Q : zQs} {N : Nat} {L L' : List zTo} {y : Nat} (h : zun2 Q N L = .ok (L', y)) : zqv Q (zPay L) = some y ∧ y < 20 ∧ L' = L.tail := by
  unfold zun2 at h
  split at h
  · cases hq : zqv Q (zPay L) with
    | none => rw [hq] at h; cases h
    | some z =>
      rw [hq] at h
      dsimp only at h
      by_cases c : z < 20
      · rw [if_pos c] at h; cases h; exact ⟨rfl, c, rfl⟩
      · rw [if_neg c] at h; cases h
  · cases h
theorem ztl {L : List zTo} : L.tail.length ≤ L.length := by rw [List.length_tail]; omega
theorem ztl1 {L : List zTo} (h : L ≠ []) : L.tail.length + 1 ≤ L.length := by
  cases L with
  | nil => exact absurd rfl h
  | cons t M => exact Nat.le_refl _
theorem zpo_w {N : Nat} {D D' : zDft} {L L' : List zTo} (hg : zgt L) (hD : zDw D) (hL : L ≠ []) (h : zpo N D L = .ok (L', D')) : zDw D' ∧ zgt L' ∧ L'.length + 1 ≤ L.length := by
  unfold zpo at h
  by_cases c : 6 ≤ aP D.1
  · rw [if_pos c] at h; cases h
  · rw [if_neg c] at h
    obtain ⟨L1, nm, a1, h⟩ := zbn_inv h
    obtain ⟨L2, kd, a2, h⟩ := zbn_inv h
    obtain ⟨L3, x3, a3, h⟩ := zbn_inv h
    obtain ⟨L4, wg, a4, h⟩ := zbn_inv h
    obtain ⟨n1, n2, n3, n4⟩ := znn_inv a1
    obtain ⟨b1, b2, _⟩ := zwq_inv a2
    obtain ⟨c1, c2⟩ := zwo_inv a3
    obtain ⟨d1, d2, d3, _⟩ := znb_inv a4
    have g0 := zgt_t hg
    have g1 : zgt L1 := by rw [n4]; exact zgt_t g0
    have g2 : zgt L2 := by rw [b2]; exact zgt_t g1
    have g3 : zgt L3 := by rw [c2]; exact zgt_t g2
    have g4 : zgt L4 := by rw [d3]; exact zgt_t g3
    have l0 := ztl1 hL
    have l1 : L1.length ≤ L.tail.length := by rw [n4]; exact ztl
    have l2 : L2.length ≤ L1.length := by rw [b2]; exact ztl
    have l3 : L3.length ≤ L2.length := by rw [c2]; exact ztl
    have l4 : L4.length ≤ L3.length := by rw [d3]; exact ztl
    have hw : zWd nm := by rw [n2]; exact znm_g g0 n1
    have hk := zwh_34.2.1 b1
    by_cases cu : zws L4 = some 3
    · rw [if_pos cu] at h
      obtain ⟨L5, u, a5, h⟩ := zbn_inv h
      cases h
      obtain ⟨u1, u2, u3⟩ := zun2_inv a5
      have hu : u < aP D.1 := by
        rcases (hD.2.1.2.1 _ (zqv_s u1)).2 with g | ⟨m, _, g⟩
        · exact g
        · have g' : u = 20 + m := g
          omega
      refine ⟨zDw_post hD (by omega) (by omega) d1 d2 (fun u' hu' => by have := Option.some.inj hu'; omega) hw n3, by rw [u3]; exact zgt_t (zgt_t g4), ?_⟩
      have l5 : L'.length ≤ L4.tail.length := by rw [u3]; exact ztl
      have l6 : L4.tail.length ≤ L4.length := ztl
      omega
    · rw [if_neg cu] at h
      cases h
      exact ⟨zDw_post hD (by omega) (by omega) d1 d2 (fun u' hu' => by cases hu') hw n3, g4, by omega⟩
theorem zma_w {N : Nat} {D D' : zDft} {L L' : List zTo} (hg : zgt L) (hD : zDw D) (hL : L ≠ []) (h : zma N D L = .ok (L', D')) : zDw D' ∧ zgt L' ∧ L'.length + 1 ≤ L.length := by
  unfold zma at h
  by_cases c : 6 ≤ aM D.1
  · rw [if_pos c] at h; cases h
  · rw [if_neg c] at h
    obtain ⟨L1, nm, a1, h⟩ := zbn_inv h
    obtain ⟨L2, x2, a2, h⟩ := zbn_inv h
    obtain ⟨L3, br, a3, h⟩ := zbn_inv h
    obtain ⟨L4, x4, a4, h⟩ := zbn_inv h
    obtain ⟨L5, wt, a5, h⟩ := zbn_inv h
    obtain ⟨L6, x6, a6, h⟩ := zbn_inv h
    obtain ⟨L7, co, a7, h⟩ := zbn_inv h
    cases h
    obtain ⟨n1, n2, n3, n4⟩ := znn_inv a1
    have i2 := (zwo_inv a2).2
    obtain ⟨_, j3, i3, _⟩ := znb_inv a3
    have i4 := (zwo_inv a4).2
    obtain ⟨_, j5, i5, _⟩ := znb_inv a5
    have i6 := (zwo_inv a6).2
    obtain ⟨_, j7, i7, _⟩ := znb_inv a7
    have g0 := zgt_t hg
    have g1 : zgt L1 := by rw [n4]; exact zgt_t g0
    have g2 : zgt L2 := by rw [i2]; exact zgt_t g1
    have g3 : zgt L3 := by rw [i3]; exact zgt_t g2
    have g4 : zgt L4 := by rw [i4]; exact zgt_t g3
    have g5 : zgt L5 := by rw [i5]; exact zgt_t g4
    have g6 : zgt L6 := by rw [i6]; exact zgt_t g5
    have g7 : zgt L' := by rw [i7]; exact zgt_t g6
    have l0 := ztl1 hL
    have l1 : L1.length ≤ L.tail.length := by rw [n4]; exact ztl
    have l2 : L2.length ≤ L1.length := by rw [i2]; exact ztl
    have l3 : L3.length ≤ L2.length := by rw [i3]; exact ztl
    have l4 : L4.length ≤ L3.length := by rw [i4]; exact ztl
    have l5 : L5.length ≤ L4.length := by rw [i5]; exact ztl
    have l6 : L6.length ≤ L5.length := by rw [i6]; exact ztl
    have l7 : L'.length ≤ L6.length := by rw [i7]; exact ztl
    exact ⟨zDw_man hD (by omega) j3 j5 j7 (by rw [n2]; exact znm_g g0 n1) n3, g7, by omega⟩
theorem zAf_F (A : zA) (j x i j' : Nat) : aF (zAf A j x) i j' = if i = 6 ∧ j' = j then x else aF A i j' := rfl
theorem zon_w {N i : Nat} (hi : i < 7) {D D' : zDft} {L L' : List zTo} (hg : zgt L) (hD : zDw D) (h : zon N i D L = .ok (L', D')) : zDw D' ∧ zgt L' ∧ L'.length ≤ L.length := by
  have hw := hD.1.2.2.1
  unfold zon at h
  by_cases c3 : i < 3
  · rw [if_pos c3] at h
    obtain ⟨L1, c, a1, h⟩ := zbn_inv h
    cases h
    obtain ⟨s1, s2⟩ := zall_d hg a1
    refine ⟨zDw_law (tl := D.2.2) hD ?_, s2, ?_⟩
    · by_cases z : i = 2
      · rw [decide_eq_true z] at s1; rw [if_pos z]; exact s1
      · rw [decide_eq_false z] at s1; rw [if_neg z]; exact s1
    · have := zsm_all _ _ _ _ _ _ a1
      omega
  · rw [if_neg c3] at h
    by_cases d3 : i = 3
    · rw [if_pos d3] at h
      obtain ⟨L1, ce, a1, h⟩ := zbn_inv h
      obtain ⟨L2, x2, a2, h⟩ := zbn_inv h
      obtain ⟨L3, st, a3, h⟩ := zbn_inv h
      cases h
      obtain ⟨b1, b2, b3, _⟩ := znb_inv a1
      have i2 := (zwo_inv a2).2
      obtain ⟨e1, e2, e3, _⟩ := znb_inv a3
      have l1 : L1.length ≤ L.length := by rw [b3]; exact ztl
      have l2 : L2.length ≤ L1.length := by rw [i2]; exact ztl
      have l3 : L'.length ≤ L2.length := by rw [e3]; exact ztl
      refine ⟨zDw_f (tl := D.2.2) hD rfl rfl (fun i j q => ?_) rfl rfl ?_, by rw [e3, i2, b3]; exact zgt_t (zgt_t (zgt_t hg)), by omega⟩
      · rw [zAf_F, zAf_F, if_neg (fun z => q z.1), if_neg (fun z => q z.1)]
      · simp only [zAf_F]
        simp only [Nat.reduceEqDiff, and_false, and_true, if_true, if_false, and_self]
        omega
    · rw [if_neg d3] at h
      by_cases d4 : i = 4
      · rw [if_pos d4] at h
        obtain ⟨L1, x, a1, h⟩ := zbn_inv h
        cases h
        obtain ⟨b1, b2, b3, _⟩ := znb_inv a1
        refine ⟨zDw_f (tl := D.2.2) hD rfl rfl (fun i j q => by rw [zAf_F, if_neg (fun z => q z.1)]) rfl rfl ?_, by rw [b3]; exact zgt_t hg, by rw [b3]; exact ztl⟩
        simp only [zAf_F]
        simp only [Nat.reduceEqDiff, and_false, and_true, if_true, if_false, and_self]
        omega
      · rw [if_neg d4] at h
        by_cases d5 : i = 5
        · rw [if_pos d5] at h
          obtain ⟨L1, x, a1, h⟩ := zbn_inv h
          cases h
          obtain ⟨b1, b2, b3, _⟩ := znb_inv a1
          refine ⟨zDw_f (tl := D.2.2) hD rfl rfl (fun i j q => by rw [zAf_F, if_neg (fun z => q z.1)]) rfl rfl ?_, by rw [b3]; exact zgt_t hg, by rw [b3]; exact ztl⟩
          simp only [zAf_F]
          simp only [Nat.reduceEqDiff, and_false, and_true, if_true, if_false, and_self]
          omega
        · rw [if_neg d5] at h
          obtain ⟨L1, x, a1, h⟩ := zbn_inv h
          cases h
          obtain ⟨b1, b2, b3, _⟩ := znb_inv a1
          refine ⟨zDw_f (tl := D.2.2) hD rfl rfl (fun i j q => by rw [zAf_F, if_neg (fun z => q z.1)]) rfl rfl ?_, by rw [b3]; exact zgt_t hg, by rw [b3]; exact ztl⟩
          simp only [zAf_F]
          simp only [Nat.reduceEqDiff, and_false, and_true, if_true, if_false, and_self]
          omega
theorem zal_w {N : Nat} {D D' : zDft} {L L' : List zTo} (hg : zgt L) (hD : zDw D) (h : zal N D L = .ok (L', D')) : zDw D' ∧ zgt L' ∧ L'.length + 2 ≤ L.length := by
  unfold zal at h
  obtain ⟨L1, D1, a1, h⟩ := zbn_inv h
  obtain ⟨L2, x2, a2, h⟩ := zbn_inv h
  cases h
  obtain ⟨b1, b2⟩ := zsi_inv a2
  have hne : L1 ≠ [] := fun q => by rw [q] at b1; cases b1
  have l2 : L'.length + 1 ≤ L1.length := by rw [b2]; exact ztl1 hne
  have key : zDw D' ∧ zgt L1 ∧ L1.length + 1 ≤ L.length := by
    unfold zal0 at a1
    by_cases c0 : zws L = some 0
    · rw [if_pos c0] at a1
      exact zpo_w hg hD (fun q => by rw [q] at c0; cases c0) a1
    · rw [if_neg c0] at a1
      by_cases c1 : zws L = some 1
      · rw [if_pos c1] at a1
        exact zma_w hg hD (fun q => by rw [q] at c1; cases c1) a1
      · rw [if_neg c1] at a1
        cases hz : zwh L 1 with
        | none => rw [hz] at a1; cases a1
        | some i =>
          rw [hz] at a1
          dsimp only at a1
          cases ht : D.2.2 i with
          | true => rw [ht, if_pos rfl] at a1; cases a1
          | false =>
            rw [ht, if_neg (by decide)] at a1
            have hD2 : zDw (D.1, D.2.1, fun j => D.2.2 j || j == i) := hD
            have l0 := ztl1 (L := L) (fun q => by rw [q] at hz; cases hz)
            obtain ⟨s1, s2, s3⟩ := zon_w (zwh_34.2.2 hz) (zgt_t hg) hD2 a1
            exact ⟨s1, s2, by omega⟩
  exact ⟨key.1, by rw [b2]; exact zgt_t key.2.1, by omega⟩
