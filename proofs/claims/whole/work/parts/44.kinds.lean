/-! nothing new is made where nothing may be -/
theorem zq_stp_k {sc : zX} {d o pc : Nat} {ini : Bool} {ins : Instr} {lv : List (Option Value)} {st : List Value} {h : zH} {c' : zC} (hg : zq_stp sc false d o ini ins pc lv st h = some c') : c'.2.2.2.1 = h.1 := by
  unfold zq_stp at hg
  split at hg
  all_goals first
    | exact congrArg Prod.fst (zq_g1_h hg)
    | exact congrArg Prod.fst (zq_g2_h hg)
    | exact congrArg Prod.fst (zq_g3_h hg)
    | exact congrArg Prod.fst (zq_g4_h hg)
    | exact congrArg Prod.fst (zq_g5_h hg)
    | exact congrArg Prod.fst (zq_g6_h hg)
    | exact zq_g7_h hg
    | exact zq_g8_h hg
    | exact congrArg Prod.fst (zq_ga_h hg)
    | (unfold zq_g9 at hg; simp at hg)
    | cases hg
theorem zq_run_k {sc : zX} : ∀ (n d k pc : Nat) (lv : List (Option Value)) (st : List Value) (h : zH) (v : Option Value) (hF : zH), zq_run sc false n d k pc lv st h = some (v, hF) → hF.1 = h.1 := by
  intro n
  induction n with
  | zero => intro d k pc lv st h v hF hr; cases hr
  | succ n ih =>
    intro d k pc lv st h v hF hr
    unfold zq_run at hr
    split at hr
    · cases hr
    · split at hr
      next c hc => exact (ih _ _ _ _ _ _ _ _ hr).trans (zq_stp_k hc)
      next =>
        split at hr
        · cases hr; rfl
        · split at hr
          · cases hr
          · split at hr
            · cases hr
            · split at hr
              · cases hr
              next v1 h1 hr1 => exact (ih _ _ _ _ _ _ _ _ hr).trans (ih _ _ _ _ _ _ _ _ hr1)
theorem zq_fr_k {sc : zX} {stop : Nat → Instr → Bool} {ds : Nat} : ∀ (n d k : Nat) (c cF : zC), zq_fr sc false stop ds n d k c = some cF → cF.2.2.2.1 = c.2.2.2.1 := by
  intro n
  induction n with
  | zero => intro d k c cF hr; cases hr
  | succ n ih =>
    intro d k c cF hr
    unfold zq_fr at hr
    split at hr
    · cases hr
    · split at hr
      · cases hr; rfl
      · split at hr
        next c' hc => exact (ih _ _ _ _ hr).trans (zq_stp_k hc)
        next =>
          split at hr
          · cases hr
          · split at hr
            · cases hr
            · split at hr
              · cases hr
              next r hr1 => exact (ih _ _ _ _ hr).trans (zq_run_k _ _ _ _ _ _ _ r.1 r.2 hr1)
