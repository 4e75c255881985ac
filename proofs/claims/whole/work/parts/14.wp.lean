/-! runs of the small machine, goal first: what a method answers, without fuel -/
theorem zq_run_mono {sc : zX} {al : Bool} : ∀ (n d k pc : Nat) (lv : List (Option Value)) (st : List Value) (h : zH) (o : Option Value × zH), zq_run sc al n d k pc lv st h = some o → ∀ m, n ≤ m → zq_run sc al m d k pc lv st h = some o := by
  intro n
  induction n with
  | zero => intro d k pc lv st h o hr; cases hr
  | succ n ih =>
    intro d k pc lv st h o hr m hm
    obtain ⟨m, rfl⟩ : ∃ m', m = m' + 1 := ⟨m - 1, by omega⟩
    have hnm : n ≤ m := by omega
    unfold zq_run at hr ⊢
    split at hr
    · cases hr
    next ins len hcode =>
    split at hr
    next c hc => exact ih _ _ _ _ _ _ _ hr m hnm
    next =>
      split at hr
      next v hv => exact hr
      next =>
        split at hr
        · cases hr
        next k' as rest hcal =>
        split at hr
        · cases hr
        next d' =>
        split at hr
        · cases hr
        next v1 h1 hr1 =>
        rw [ih _ _ _ _ _ _ _ hr1 m hnm]
        exact ih _ _ _ _ _ _ _ hr m hnm
def zq_wp (sc : zX) (d k pc : Nat) (lv : List (Option Value)) (st : List Value) (h : zH) (o : Option Value × zH) : Prop := ∃ n, zq_run sc false n d k pc lv st h = some o
def zq_wm (sc : zX) (d k : Nat) (as : List Value) (h : zH) (o : Option Value × zH) : Prop := zq_wp sc d k 0 (zq_ent (zq_maxL k) as) [] h o
/-- several steps at once -/
def zq_go (sc : zX) (d k : Nat) : Nat → zC → Option zC
  | 0, c => some c
  | n + 1, c => match zq_code k c.1 with
    | none => none
    | some x => match zq_stp sc false d (zq_own k) (zq_ini k) x.1 c.1 c.2.1 c.2.2.1 c.2.2.2 with
      | some c' => zq_go sc d k n c'
      | none => none
section ZW
variable {sc : zX} {d k pc : Nat} {lv : List (Option Value)} {st : List Value} {h : zH} {o : Option Value × zH}
theorem zq_w1 {x : Instr × Nat} {c : zC} (hc : zq_code k pc = some x) (hs : zq_stp sc false d (zq_own k) (zq_ini k) x.1 pc lv st h = some c) (kk : zq_wp sc d k c.1 c.2.1 c.2.2.1 c.2.2.2 o) : zq_wp sc d k pc lv st h o := by
  obtain ⟨n, hn⟩ := kk
  refine ⟨n + 1, ?_⟩
  unfold zq_run
  obtain ⟨ins, len⟩ := x
  simp only [hc, hs]
  exact hn
theorem zq_ws' : ∀ (n : Nat) (c c' : zC), zq_go sc d k n c = some c' → zq_wp sc d k c'.1 c'.2.1 c'.2.2.1 c'.2.2.2 o → zq_wp sc d k c.1 c.2.1 c.2.2.1 c.2.2.2 o := by
  intro n
  induction n with
  | zero => intro c c' hg kk; cases hg; exact kk
  | succ n ih =>
    intro c c' hg kk
    unfold zq_go at hg
    split at hg
    · cases hg
    next x hx =>
      split at hg
      next c1 h1 => exact zq_w1 hx h1 (ih c1 c' hg kk)
      next => cases hg
theorem zq_wg (n : Nat) {pc' : Nat} {lv' : List (Option Value)} {st' : List Value} {h' : zH} (hg : zq_go sc d k n (pc, lv, st, h) = some (pc', lv', st', h')) (kk : zq_wp sc d k pc' lv' st' h' o) : zq_wp sc d k pc lv st h o := zq_ws' n (pc, lv, st, h) (pc', lv', st', h') hg kk
theorem zq_wr {x : Instr × Nat} {v : Option Value} (hc : zq_code k pc = some x) (hs : zq_stp sc false d (zq_own k) (zq_ini k) x.1 pc lv st h = none) (hr : zq_ret (zq_rt k) x.1 st = some v) (ho : (v, h) = o) : zq_wp sc d k pc lv st h o := by
  refine ⟨1, ?_⟩
  unfold zq_run
  obtain ⟨ins, len⟩ := x
  simp only [hc, hs, hr]
  rw [ho]
theorem zq_wc {x : Instr × Nat} {k' : Nat} {as rest : List Value} {v : Option Value} {h1 : zH} (hc : zq_code k pc = some x) (hs : zq_stp sc false (d + 1) (zq_own k) (zq_ini k) x.1 pc lv st h = none) (hr : zq_ret (zq_rt k) x.1 st = none) (hcal : zq_cal (zq_own k) x.1 st h = some (k', as, rest)) (hm : zq_wm sc d k' as h (v, h1)) (kk : zq_wp sc (d + 1) k (pc + 3) lv (v.toList ++ rest) h1 o) : zq_wp sc (d + 1) k pc lv st h o := by
  obtain ⟨n1, e1⟩ := hm
  obtain ⟨n2, e2⟩ := kk
  refine ⟨max n1 n2 + 1, ?_⟩
  unfold zq_run
  obtain ⟨ins, len⟩ := x
  simp only [hc, hs, hr, hcal]
  rw [zq_run_mono _ _ _ _ _ _ _ _ e1 (max n1 n2) (Nat.le_max_left _ _)]
  exact zq_run_mono _ _ _ _ _ _ _ _ e2 (max n1 n2) (Nat.le_max_right _ _)
end ZW
