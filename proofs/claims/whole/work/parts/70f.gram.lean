/-! laws as told: what they come to -/
abbrev zPR : Type := Except Nat (List zTo × zCo)
def zbd (x : zPR) (f : List zTo → zCo → zPR) : zPR := match x with
  | .error F => .error F
  | .ok r => f r.1 r.2
def zop6 (L : List zTo) : Option Nat := if zis L 42 then some 6 else none
def zop45 (L : List zTo) : Option Nat := if zis L 43 then some 4 else if zis L 45 then some 5 else none
def zop9 (L : List zTo) : Option Nat := if zws L = some 9 then some 9 else if zws L = some 10 then some 10 else none
def zop78 (L : List zTo) : Option Nat := if zis L 60 then some 7 else if zis L 61 then some 8 else none
def zchn (op : List zTo → Option Nat) (sub : List zTo → zPR) : Nat → List zTo → zPR
  | 0, L => .ok (L, [])
  | n + 1, L => match op L with
    | none => .ok (L, [])
    | some o => zbd (sub L.tail) (fun L' c => zbd (zchn op sub n L') (fun L'' c' => .ok (L'', c ++ [(o, 0)] ++ c')))
def zlv (op : List zTo → Option Nat) (sub : List zTo → zPR) (L : List zTo) : zPR := zbd (sub L) (fun L' c => zbd (zchn op sub L.length L') (fun L'' c' => .ok (L'', c ++ c')))
def zts (sub : List zTo → zPR) (L : List zTo) : zPR := zbd (sub L) (fun L' c => match zop78 L' with
  | none => .ok (L', c)
  | some o => zbd (sub L'.tail) (fun L'' c' => .ok (L'', c ++ c' ++ [(o, 0)])))
def zpk (q : Bool) (L : List zTo) : Nat := if (zNub L).isSome then 1 else if (zwh L (if q then 6 else 5)).isSome then 2 else if zws L = some 8 then 3 else if zis L 40 then 4 else 0
def zpt (q : Bool) (N : Nat) : Nat → List zTo → zPR
  | 0, L => if zpk q L = 0 then .error (zer 1 N L) else .error (zer 5 N L)
  | n + 1, L => if zpk q L = 0 then .error (zer 1 N L) else if zpk q L = 1 then .ok (L.tail, [(1, (zNub L).getD 0)]) else if zpk q L = 2 then .ok (L.tail, [(2, (zwh L (if q then 6 else 5)).getD 0)]) else if zpk q L = 3 then zbd (zpt q N n L.tail) (fun L' c => .ok (L', c ++ [(3, 0)])) else zbd (zlv zop9 (zts (zlv zop45 (zlv zop6 (zpt q N n)))) L.tail) (fun L' c => if zis L' 41 then .ok (L'.tail, c) else .error (zer 1 N L'))
def zall (q : Bool) (N n : Nat) : List zTo → zPR := zlv zop9 (zts (zlv zop45 (zlv zop6 (zpt q N n))))
theorem zbd_ok {x : zPR} {f : List zTo → zCo → zPR} {r : List zTo × zCo} (h : zbd x f = .ok r) : ∃ L c, x = .ok (L, c) ∧ f L c = .ok r := by
  cases x with
  | error F => cases h
  | ok p => exact ⟨p.1, p.2, rfl, h⟩
/-- no more codes than tokens -/
def zsmm (sub : List zTo → zPR) : Prop := ∀ L L' c, sub L = .ok (L', c) → c.length + L'.length ≤ L.length
theorem zop_c {op : List zTo → Option Nat} (ho : op = zop6 ∨ op = zop45 ∨ op = zop9 ∨ op = zop78) {L : List zTo} {o : Nat} (h : op L = some o) : ∃ t L', L = t :: L' := by
  cases L with
  | cons t L => exact ⟨t, L, rfl⟩
  | nil => rcases ho with rfl | rfl | rfl | rfl <;> cases h
theorem zsm_ch {op : List zTo → Option Nat} (ho : op = zop6 ∨ op = zop45 ∨ op = zop9 ∨ op = zop78) {sub : List zTo → zPR} (hs : zsmm sub) : ∀ n, zsmm (zchn op sub n) := by
  intro n
  induction n with
  | zero =>
    intro L L' c h
    cases h
    exact Nat.le_of_eq (Nat.zero_add _)
  | succ n ih =>
    intro L L' c h
    cases hz : op L with
    | none =>
      have h' : (match op L with | none => (.ok (L, []) : zPR) | some o => zbd (sub L.tail) (fun L' c => zbd (zchn op sub n L') (fun L'' c' => .ok (L'', c ++ [(o, 0)] ++ c')))) = .ok (L', c) := h
      rw [hz] at h'
      cases h'
      exact Nat.le_of_eq (Nat.zero_add _)
    | some o =>
      have h' : (match op L with | none => (.ok (L, []) : zPR) | some o => zbd (sub L.tail) (fun L' c => zbd (zchn op sub n L') (fun L'' c' => .ok (L'', c ++ [(o, 0)] ++ c')))) = .ok (L', c) := h
      rw [hz] at h'
      obtain ⟨L1, c1, e1, e2⟩ := zbd_ok h'
      obtain ⟨L2, c2, e3, e4⟩ := zbd_ok e2
      cases e4
      have g1 := hs _ _ _ e1
      have g2 := ih _ _ _ e3
      obtain ⟨t, M, rfl⟩ := zop_c ho hz
      rw [List.tail_cons] at g1
      rw [List.length_append, List.length_append, List.length_singleton, List.length_cons]
      omega
theorem zsm_lv {op : List zTo → Option Nat} (ho : op = zop6 ∨ op = zop45 ∨ op = zop9 ∨ op = zop78) {sub : List zTo → zPR} (hs : zsmm sub) : zsmm (zlv op sub) := by
  intro L L' c h
  obtain ⟨L1, c1, e1, e2⟩ := zbd_ok h
  obtain ⟨L2, c2, e3, e4⟩ := zbd_ok e2
  cases e4
  have g1 := hs _ _ _ e1
  have g2 := zsm_ch ho hs _ _ _ _ e3
  rw [List.length_append]
  omega
theorem zsm_ts {sub : List zTo → zPR} (hs : zsmm sub) : zsmm (zts sub) := by
  intro L L' c h
  obtain ⟨L1, c1, e1, e2⟩ := zbd_ok h
  have g1 := hs _ _ _ e1
  cases hz : zop78 L1 with
  | none => rw [hz] at e2; cases e2; exact g1
  | some o =>
    rw [hz] at e2
    obtain ⟨L2, c2, e3, e4⟩ := zbd_ok e2
    cases e4
    have g2 := hs _ _ _ e3
    obtain ⟨t, M, rfl⟩ := zop_c (op := zop78) (by simp) hz
    rw [List.tail_cons] at g2
    rw [List.length_append, List.length_append, List.length_singleton]
    rw [List.length_cons] at g1
    omega
theorem zpk_c {q : Bool} {L : List zTo} (h : zpk q L ≠ 0) : ∃ t L', L = t :: L' := by
  cases L with
  | cons t L => exact ⟨t, L, rfl⟩
  | nil => exact absurd (by cases q <;> rfl) h
theorem zsm_pt (q : Bool) (N : Nat) : ∀ n, zsmm (zpt q N n) := by
  intro n
  induction n with
  | zero =>
    intro L L' c h
    have h' : (if zpk q L = 0 then (.error (zer 1 N L) : zPR) else .error (zer 5 N L)) = .ok (L', c) := h
    split at h' <;> cases h'
  | succ n ih =>
    intro L L' c h
    unfold zpt at h
    split at h
    · cases h
    · next k0 =>
      obtain ⟨t, M, rfl⟩ := zpk_c k0
      rw [List.tail_cons] at h
      rw [List.length_cons]
      split at h
      · cases h; exact Nat.le_of_eq (Nat.add_comm _ _)
      · split at h
        · cases h; exact Nat.le_of_eq (Nat.add_comm _ _)
        · split at h
          · obtain ⟨L1, c1, e1, e2⟩ := zbd_ok h
            cases e2
            have := ih _ _ _ e1
            rw [List.length_append, List.length_singleton]
            omega
          · obtain ⟨L1, c1, e1, e2⟩ := zbd_ok h
            split at e2
            · cases e2
              have := zsm_lv (op := zop9) (by simp) (zsm_ts (zsm_lv (op := zop45) (by simp) (zsm_lv (op := zop6) (by simp) ih))) _ _ _ e1
              have h2 : L1.tail.length ≤ L1.length := by rw [List.length_tail]; omega
              omega
            · cases e2
theorem zsm_all (q : Bool) (N n : Nat) : zsmm (zall q N n) := zsm_lv (op := zop9) (by simp) (zsm_ts (zsm_lv (op := zop45) (by simp) (zsm_lv (op := zop6) (by simp) (zsm_pt q N n))))
/-- a row of codes that lays one thing on the pile, B high at most -/
def zcdd (m : Nat) (c : zCo) (B : Nat) : Prop := ∀ l t, t + B ≤ 32 → lok m l (t + 1) → lok m (c ++ l) t
def zsd (m B : Nat) (sub : List zTo → zPR) : Prop := ∀ L L' c, sub L = .ok (L', c) → zcdd m c B
theorem zcd_mono {m B B' : Nat} {c : zCo} (h : zcdd m c B) (hB : B ≤ B') : zcdd m c B' := fun l t h1 h2 => h l t (by omega) h2
theorem zcd_bin {m B B' : Nat} {c c' : zCo} {o : Nat} (h : zcdd m c B) (h' : zcdd m c' B') (ho : 4 ≤ o ∧ o ≤ 10) (hB : B ≤ B' + 1) : zcdd m (c ++ c' ++ [(o, 0)]) (B' + 1) := by
  intro l t h1 h2
  rw [List.append_assoc, List.append_assoc]
  refine h _ t (by omega) (h' _ (t + 1) (by omega) ?_)
  exact Or.inr (Or.inr (Or.inr ⟨ho.1, ho.2, by omega, h2⟩))
theorem zop_o {op : List zTo → Option Nat} (ho : op = zop6 ∨ op = zop45 ∨ op = zop9 ∨ op = zop78) {L : List zTo} {o : Nat} (h : op L = some o) : 4 ≤ o ∧ o ≤ 10 := by
  rcases ho with rfl | rfl | rfl | rfl
  · unfold zop6 at h
    split at h
    · injection h with h; omega
    · cases h
  · unfold zop45 at h
    split at h
    · injection h with h; omega
    · split at h
      · injection h with h; omega
      · cases h
  · unfold zop9 at h
    split at h
    · injection h with h; omega
    · split at h
      · injection h with h; omega
      · cases h
  · unfold zop78 at h
    split at h
    · injection h with h; omega
    · split at h
      · injection h with h; omega
      · cases h
theorem zsd_ch {m B : Nat} {op : List zTo → Option Nat} (ho : op = zop6 ∨ op = zop45 ∨ op = zop9 ∨ op = zop78) {sub : List zTo → zPR} (hs : zsd m B sub) : ∀ n L L' c' c, zchn op sub n L = .ok (L', c') → zcdd m c (B + 1) → zcdd m (c ++ c') (B + 1) := by
  intro n
  induction n with
  | zero =>
    intro L L' c' c h hc
    cases h
    rw [List.append_nil]; exact hc
  | succ n ih =>
    intro L L' c' c h hc
    have h' : (match op L with | none => (.ok (L, []) : zPR) | some o => zbd (sub L.tail) (fun L' c => zbd (zchn op sub n L') (fun L'' c' => .ok (L'', c ++ [(o, 0)] ++ c')))) = .ok (L', c') := h
    cases hz : op L with
    | none => rw [hz] at h'; cases h'; rw [List.append_nil]; exact hc
    | some o =>
      rw [hz] at h'
      obtain ⟨L1, c1, e1, e2⟩ := zbd_ok h'
      obtain ⟨L2, c2, e3, e4⟩ := zbd_ok e2
      cases e4
      have g := ih _ _ _ (c ++ c1 ++ [(o, 0)]) e3 (zcd_bin hc (hs _ _ _ e1) (zop_o ho hz) (Nat.le_refl _))
      rw [show c ++ (c1 ++ [(o, 0)] ++ c2) = c ++ c1 ++ [(o, 0)] ++ c2 from by simp only [List.append_assoc]]
      exact g
theorem zsd_lv {m B : Nat} {op : List zTo → Option Nat} (ho : op = zop6 ∨ op = zop45 ∨ op = zop9 ∨ op = zop78) {sub : List zTo → zPR} (hs : zsd m B sub) : zsd m (B + 1) (zlv op sub) := by
  intro L L' c h
  obtain ⟨L1, c1, e1, e2⟩ := zbd_ok h
  obtain ⟨L2, c2, e3, e4⟩ := zbd_ok e2
  cases e4
  exact zsd_ch ho hs _ _ _ _ _ e3 (zcd_mono (hs _ _ _ e1) (by omega))
theorem zsd_ts {m B : Nat} {sub : List zTo → zPR} (hs : zsd m B sub) : zsd m (B + 1) (zts sub) := by
  intro L L' c h
  obtain ⟨L1, c1, e1, e2⟩ := zbd_ok h
  cases hz : zop78 L1 with
  | none => rw [hz] at e2; cases e2; exact zcd_mono (hs _ _ _ e1) (by omega)
  | some o =>
    rw [hz] at e2
    obtain ⟨L2, c2, e3, e4⟩ := zbd_ok e2
    cases e4
    exact zcd_bin (hs _ _ _ e1) (hs _ _ _ e3) (zop_o (op := zop78) (by simp) hz) (by omega)
def zgt (L : List zTo) : Prop := ∀ t, t ∈ L → zTg t
theorem zwh_m {q : Bool} {L : List zTo} {k : Nat} (h : zwh L (if q then 6 else 5) = some k) : k < (if q then 3 else 4) := by
  have key : ∀ i, i < 36 → (zuL.getD i 0 = 6 → zhL.getD i 0 < 3) ∧ (zuL.getD i 0 = 5 → zhL.getD i 0 < 4) := by decide +kernel
  have gen : ∀ u, zwh L u = some k → ∃ i, i < 36 ∧ zuL.getD i 0 = u ∧ zhL.getD i 0 = k := by
    intro u hu
    unfold zwh at hu
    cases hz : zws L with
    | none => rw [hz] at hu; cases hu
    | some i =>
      rw [hz] at hu
      dsimp only at hu
      by_cases c : zuL.getD i 0 = u
      · rw [if_pos c] at hu
        exact ⟨i, zws_lt hz, c, Option.some.inj hu⟩
      · rw [if_neg c] at hu; cases hu
  cases q with
  | false =>
    obtain ⟨i, h1, h2, h3⟩ := gen 5 h
    have := (key i h1).2 h2
    show k < 4
    omega
  | true =>
    obtain ⟨i, h1, h2, h3⟩ := gen 6 h
    have := (key i h1).1 h2
    show k < 3
    omega
/-- tokens as they must be, kept -/
def zsg2 (sub : List zTo → zPR) : Prop := ∀ L L' c, zgt L → sub L = .ok (L', c) → zgt L'
theorem zgt_t {L : List zTo} (h : zgt L) : zgt L.tail := fun t ht => h t (List.mem_of_mem_tail ht)
theorem zcd_all {q : Bool} {N : Nat} : ∀ n L L' c, zgt L → zpt q N n L = .ok (L', c) → zcdd (if q then 3 else 4) c (4 * n) ∧ zgt L' := by
  have chain : ∀ (B : Nat) (op : List zTo → Option Nat), (op = zop6 ∨ op = zop45 ∨ op = zop9 ∨ op = zop78) → ∀ sub : List zTo → zPR, (∀ L L' c, zgt L → sub L = .ok (L', c) → zcdd (if q then 3 else 4) c B ∧ zgt L') → ∀ n L L' c' c, zgt L → zchn op sub n L = .ok (L', c') → zcdd (if q then 3 else 4) c (B + 1) → zcdd (if q then 3 else 4) (c ++ c') (B + 1) ∧ zgt L' := by
    intro B op ho sub hs n
    induction n with
    | zero =>
      intro L L' c' c hg h hc
      cases h
      rw [List.append_nil]; exact ⟨hc, hg⟩
    | succ n ih =>
      intro L L' c' c hg h hc
      have h' : (match op L with | none => (.ok (L, []) : zPR) | some o => zbd (sub L.tail) (fun L' c => zbd (zchn op sub n L') (fun L'' c' => .ok (L'', c ++ [(o, 0)] ++ c')))) = .ok (L', c') := h
      cases hz : op L with
      | none => rw [hz] at h'; cases h'; rw [List.append_nil]; exact ⟨hc, hg⟩
      | some o =>
        rw [hz] at h'
        obtain ⟨L1, c1, e1, e2⟩ := zbd_ok h'
        obtain ⟨L2, c2, e3, e4⟩ := zbd_ok e2
        cases e4
        obtain ⟨s1, s2⟩ := hs _ _ _ (zgt_t hg) e1
        have g := ih _ _ _ (c ++ c1 ++ [(o, 0)]) s2 e3 (zcd_bin hc s1 (zop_o ho hz) (Nat.le_refl _))
        rw [show c ++ (c1 ++ [(o, 0)] ++ c2) = c ++ c1 ++ [(o, 0)] ++ c2 from by simp only [List.append_assoc]]
        exact g
  have level : ∀ (B : Nat) (op : List zTo → Option Nat), (op = zop6 ∨ op = zop45 ∨ op = zop9 ∨ op = zop78) → ∀ sub : List zTo → zPR, (∀ L L' c, zgt L → sub L = .ok (L', c) → zcdd (if q then 3 else 4) c B ∧ zgt L') → ∀ L L' c, zgt L → zlv op sub L = .ok (L', c) → zcdd (if q then 3 else 4) c (B + 1) ∧ zgt L' := by
    intro B op ho sub hs L L' c hg h
    obtain ⟨L1, c1, e1, e2⟩ := zbd_ok h
    obtain ⟨L2, c2, e3, e4⟩ := zbd_ok e2
    cases e4
    obtain ⟨s1, s2⟩ := hs _ _ _ hg e1
    exact chain B op ho sub hs _ _ _ _ _ s2 e3 (zcd_mono s1 (by omega))
  have tst : ∀ (B : Nat), ∀ sub : List zTo → zPR, (∀ L L' c, zgt L → sub L = .ok (L', c) → zcdd (if q then 3 else 4) c B ∧ zgt L') → ∀ L L' c, zgt L → zts sub L = .ok (L', c) → zcdd (if q then 3 else 4) c (B + 1) ∧ zgt L' := by
    intro B sub hs L L' c hg h
    obtain ⟨L1, c1, e1, e2⟩ := zbd_ok h
    obtain ⟨s1, s2⟩ := hs _ _ _ hg e1
    cases hz : zop78 L1 with
    | none => rw [hz] at e2; cases e2; exact ⟨zcd_mono s1 (by omega), s2⟩
    | some o =>
      rw [hz] at e2
      obtain ⟨L2, c2, e3, e4⟩ := zbd_ok e2
      cases e4
      obtain ⟨s3, s4⟩ := hs _ _ _ (zgt_t s2) e3
      exact ⟨zcd_bin s1 s3 (zop_o (op := zop78) (by simp) hz) (by omega), s4⟩
  intro n
  induction n with
  | zero =>
    intro L L' c _ h
    have h' : (if zpk q L = 0 then (.error (zer 1 N L) : zPR) else .error (zer 5 N L)) = .ok (L', c) := h
    split at h' <;> cases h'
  | succ n ih =>
    intro L L' c hg h
    unfold zpt at h
    split at h
    · cases h
    · next k0 =>
      split at h
      · next k1 =>
        cases h
        refine ⟨fun l t h1 h2 => Or.inl ⟨rfl, ?_, by omega, h2⟩, zgt_t hg⟩
        show (zNub L).getD 0 < 10000
        obtain ⟨t0, M, rfl⟩ := zpk_c k0
        have hgt := (hg t0 List.mem_cons_self).2
        unfold zNub
        dsimp only
        split
        · rcases hgt with g | ⟨_, g⟩ | ⟨g, _⟩ | g
          · omega
          · show zcw 10 t0.2.2.1 0 < 10000
            omega
          · omega
          · omega
        · decide
      · split at h
        · next k1 k2 =>
          cases h
          refine ⟨fun l t h1 h2 => Or.inr (Or.inl ⟨rfl, ?_, by omega, h2⟩), zgt_t hg⟩
          show (zwh L (if q then 6 else 5)).getD 0 < (if q then 3 else 4)
          cases hz : zwh L (if q then 6 else 5) with
          | none => cases q <;> decide
          | some k => exact zwh_m hz
        · split at h
          · obtain ⟨L1, c1, e1, e2⟩ := zbd_ok h
            cases e2
            obtain ⟨s1, s2⟩ := ih _ _ _ (zgt_t hg) e1
            refine ⟨fun l t h1 h2 => ?_, s2⟩
            rw [List.append_assoc]
            exact s1 _ t (by omega) (Or.inr (Or.inr (Or.inl ⟨rfl, by omega, h2⟩)))
          · obtain ⟨L1, c1, e1, e2⟩ := zbd_ok h
            obtain ⟨s1, s2⟩ := level _ zop9 (by simp) _ (tst _ _ (level _ zop45 (by simp) _ (level _ zop6 (by simp) _ ih))) _ _ _ (zgt_t hg) e1
            split at e2
            · cases e2
              exact ⟨zcd_mono s1 (by omega), zgt_t s2⟩
            · cases e2
