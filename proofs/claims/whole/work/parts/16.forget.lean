/-! locals that are dead may be forgotten -/
def zq_lvle (lv' lv : List (Option Value)) : Prop := lv'.length = lv.length ∧ ∀ i v, zq_ld lv' i = some v → zq_ld lv i = some v
theorem zq_clr_ld2 {lv : List (Option Value)} {i j : Nat} {v : Value} (h : zq_ld lv j = some v) (hc : j + 1 = i → v.category = 2 → ∃ w, zq_ld lv i = some w) : zq_ld (zq_clr lv i) j = some v := by
  unfold zq_clr
  split
  · exact h
  next hn =>
    have hni : ∀ w, ¬ zq_ld lv i = some w := fun w hw => hn w (zq_ld_lt hw)
    split
    · exact h
    next k =>
      have keep : ∀ x : Value, lv[k]? = some (some x) → x.category = 2 → zq_ld (lv.set k none) j = some v := by
        intro x hx hcx
        rw [zq_ld_set ((List.getElem?_eq_some_iff.mp hx).1)]
        by_cases hkj : k = j
        · exfalso
          subst hkj
          have e1 := zq_ld_lt h
          rw [hx] at e1
          cases e1
          obtain ⟨w, hw⟩ := hc rfl hcx
          exact hni w hw
        · rw [if_neg hkj]; exact h
      split
      next x hx => exact keep _ hx rfl
      next x hx => exact keep _ hx rfl
      next => exact h
theorem zq_s1_le {lv' lv l' : List (Option Value)} {i : Nat} {v : Value} (hle : zq_lvle lv' lv) (hs : zq_s1 lv' i v = some l') : ∃ l, zq_s1 lv i v = some l ∧ zq_lvle l' l := by
  have hlt := zq_s1_lt hs
  have hlt2 : i < lv.length := by rw [← hle.1]; exact hlt
  unfold zq_s1 at hs ⊢
  rw [if_pos hlt] at hs
  rw [if_pos hlt2]
  cases hs
  refine ⟨_, rfl, by rw [List.length_set, List.length_set, zq_clr_len, zq_clr_len]; exact hle.1, fun j w hw => ?_⟩
  rw [zq_ld_set (by rw [zq_clr_len]; exact hlt)] at hw
  rw [zq_ld_set (by rw [zq_clr_len]; exact hlt2)]
  by_cases hij : i = j
  · rw [if_pos hij] at hw ⊢; exact hw
  · rw [if_neg hij] at hw ⊢
    obtain ⟨h1, h2⟩ := zq_clr_ld hw
    exact zq_clr_ld2 (hle.2 j w h1) (fun e1 e2 => by obtain ⟨x, hx⟩ := h2 e1 e2; exact ⟨x, hle.2 i x hx⟩)
theorem zq_s2_le {lv' lv l' : List (Option Value)} {i : Nat} {v : Value} (hle : zq_lvle lv' lv) (hs : zq_s2 lv' i v = some l') : ∃ l, zq_s2 lv i v = some l ∧ zq_lvle l' l := by
  have hlt := zq_s2_lt hs
  have hlt2 : i + 1 < lv.length := by rw [← hle.1]; exact hlt
  unfold zq_s2 at hs ⊢
  rw [if_pos hlt] at hs
  rw [if_pos hlt2]
  cases hs
  refine ⟨_, rfl, by rw [List.length_set, List.length_set, List.length_set, List.length_set, zq_clr_len, zq_clr_len]; exact hle.1, fun j w hw => ?_⟩
  rw [zq_ld_set (by rw [List.length_set, zq_clr_len]; exact hlt), zq_ld_set (by rw [zq_clr_len]; omega)] at hw
  rw [zq_ld_set (by rw [List.length_set, zq_clr_len]; exact hlt2), zq_ld_set (by rw [zq_clr_len]; omega)]
  by_cases hij2 : i + 1 = j
  · rw [if_pos hij2] at hw; cases hw
  · rw [if_neg hij2] at hw ⊢
    by_cases hij : i = j
    · rw [if_pos hij] at hw ⊢; exact hw
    · rw [if_neg hij] at hw ⊢
      obtain ⟨h1, h2⟩ := zq_clr_ld hw
      exact zq_clr_ld2 (hle.2 j w h1) (fun e1 e2 => by obtain ⟨x, hx⟩ := h2 e1 e2; exact ⟨x, hle.2 i x hx⟩)
def zq_lm (lv : List (Option Value)) (c : zC) : zC := (c.1, lv, c.2.2)
theorem zq_g3_m (ins : Instr) (pc : Nat) (lv lv' : List (Option Value)) (st : List Value) (h : zH) : zq_g3 ins pc lv st h = (zq_g3 ins pc lv' st h).map (zq_lm lv) := by
  unfold zq_g3
  split <;> (try rfl) <;> split <;> (try rfl) <;> split <;> rfl
theorem zq_g4_m (ins : Instr) (pc : Nat) (lv lv' : List (Option Value)) (st : List Value) (h : zH) : zq_g4 ins pc lv st h = (zq_g4 ins pc lv' st h).map (zq_lm lv) := by
  unfold zq_g4
  split <;> (try rfl) <;> split <;> (try rfl) <;> split <;> rfl
theorem zq_g5_m (ins : Instr) (pc : Nat) (lv lv' : List (Option Value)) (st : List Value) (h : zH) : zq_g5 ins pc lv st h = (zq_g5 ins pc lv' st h).map (zq_lm lv) := by
  unfold zq_g5
  split <;> (try rfl) <;> (try split) <;> (try rfl) <;> (try split) <;> (try rfl) <;> (rw [Option.map_map]; rfl)
theorem zq_g6_m (ins : Instr) (pc : Nat) (lv lv' : List (Option Value)) (st : List Value) (h : zH) : zq_g6 ins pc lv st h = (zq_g6 ins pc lv' st h).map (zq_lm lv) := by
  unfold zq_g6
  split <;> (try rfl) <;> (try split) <;> (try rfl) <;> (try split) <;> (try rfl) <;> (try split) <;> (try rfl) <;> (rw [Option.map_map]; rfl)
theorem zq_g7_m (o : Nat) (ini : Bool) (ins : Instr) (pc : Nat) (lv lv' : List (Option Value)) (st : List Value) (h : zH) : zq_g7 o ini ins pc lv st h = (zq_g7 o ini ins pc lv' st h).map (zq_lm lv) := by
  unfold zq_g7
  split <;> (try rfl) <;> (try split) <;> (try rfl) <;> (try split) <;> (try rfl) <;> (try split) <;> (try rfl) <;> (try split) <;> (try rfl) <;> (try split) <;> (try rfl) <;> (rw [Option.map_map]; rfl)
theorem zq_g8_m (sc : zX) (ins : Instr) (pc : Nat) (lv lv' : List (Option Value)) (st : List Value) (h : zH) : zq_g8 sc ins pc lv st h = (zq_g8 sc ins pc lv' st h).map (zq_lm lv) := by
  unfold zq_g8
  split <;> (try rfl) <;> (try split) <;> (try rfl) <;> (rw [Option.map_map]; rfl)
theorem zq_g9_m (al : Bool) (o : Nat) (ins : Instr) (pc : Nat) (lv lv' : List (Option Value)) (st : List Value) (h : zH) : zq_g9 al o ins pc lv st h = (zq_g9 al o ins pc lv' st h).map (zq_lm lv) := by
  unfold zq_g9
  split <;> (try rfl) <;> (try split) <;> (try rfl) <;> (try split) <;> (try rfl) <;> (try split) <;> (try rfl) <;> (try split) <;> (try rfl) <;> (try split) <;> (try rfl)
theorem zq_ga_m (d o : Nat) (ins : Instr) (pc : Nat) (lv lv' : List (Option Value)) (st : List Value) (h : zH) : zq_ga d o ins pc lv st h = (zq_ga d o ins pc lv' st h).map (zq_lm lv) := by
  unfold zq_ga
  split <;> (try rfl) <;> (try split) <;> (try rfl) <;> (try split) <;> (try rfl) <;> (try split) <;> (try rfl) <;> (try split) <;> (try rfl) <;> (try split) <;> (try rfl) <;> (try split) <;> (try rfl) <;> (try split) <;> (try rfl)
def zq_lst (lv' lv : List (Option Value)) (a b : Option zC) : Prop := ∀ c', a = some c' → ∃ l, b = some (c'.1, l, c'.2.2) ∧ zq_lvle c'.2.1 l
theorem zq_lst_m {lv' lv : List (Option Value)} {a b : Option zC} (hle : zq_lvle lv' lv) (hm : b = a.map (zq_lm lv)) (hl : ∀ c', a = some c' → c'.2.1 = lv') : zq_lst lv' lv a b := by
  intro c' hc
  refine ⟨lv, by rw [hm, hc]; rfl, by rw [hl c' hc]; exact hle⟩
theorem zq_self {a : Option zC} {lv' : List (Option Value)} (hm : a = a.map (zq_lm lv')) : ∀ c', a = some c' → c'.2.1 = lv' := by
  intro c' hc
  rw [hc] at hm
  have h1 : c' = zq_lm lv' c' := Option.some.inj hm
  rw [h1]
  rfl
theorem zq_stp_le {sc : zX} {al : Bool} {d o pc : Nat} {ini : Bool} {ins : Instr} {lv' lv : List (Option Value)} {st : List Value} {h : zH} (hle : zq_lvle lv' lv) : zq_lst lv' lv (zq_stp sc al d o ini ins pc lv' st h) (zq_stp sc al d o ini ins pc lv st h) := by
  have h1 : zq_lst lv' lv (zq_g1 o ins pc lv' st h) (zq_g1 o ins pc lv st h) := by
    intro c' hc
    unfold zq_g1 at hc ⊢
    split at hc
    · cases hc; exact ⟨lv, rfl, hle⟩
    · split at hc
      next hh => cases hc; exact ⟨lv, by rw [if_pos hh], hle⟩
      next => cases hc
    · split at hc
      next hh => cases hc; exact ⟨lv, by rw [if_pos hh], hle⟩
      next => cases hc
    · cases hc; exact ⟨lv, rfl, hle⟩
    · cases hc; exact ⟨lv, rfl, hle⟩
    · split at hc
      next e1 hh => cases hc; exact ⟨lv, rfl, hle⟩
      next => cases hc
    · split at hc
      next e1 hh => cases hc; exact ⟨lv, rfl, hle⟩
      next => cases hc
    · split at hc
      next x hh => cases hc; exact ⟨lv, by rw [hle.2 _ _ hh], hle⟩
      next => cases hc
    · split at hc
      next x hh => cases hc; exact ⟨lv, by rw [hle.2 _ _ hh], hle⟩
      next => cases hc
    · split at hc
      next x hh => cases hc; exact ⟨lv, by rw [hle.2 _ _ hh], hle⟩
      next => cases hc
    · split at hc
      next x hh => cases hc; exact ⟨lv, by rw [hle.2 _ _ hh], hle⟩
      next => cases hc
    · cases hc
  have h2 : zq_lst lv' lv (zq_g2 ins pc lv' st h) (zq_g2 ins pc lv st h) := by
    intro c' hc
    unfold zq_g2 at hc ⊢
    split at hc
    · split at hc
      next x hx => cases hc; exact ⟨lv, by rw [hle.2 _ _ hx], hle⟩
      next hx => cases hc; exact ⟨lv, by rw [hle.2 _ _ hx], hle⟩
      next => cases hc
    · split at hc
      next x hx => cases hc; exact ⟨lv, by rw [hle.2 _ _ hx], hle⟩
      next hx => cases hc; exact ⟨lv, by rw [hle.2 _ _ hx], hle⟩
      next => cases hc
    · split at hc
      · obtain ⟨l', hs, rfl⟩ := Option.map_eq_some_iff.mp hc
        obtain ⟨l, e1, e2⟩ := zq_s1_le hle hs
        exact ⟨l, by rw [e1]; rfl, e2⟩
      · cases hc
    · split at hc
      · obtain ⟨l', hs, rfl⟩ := Option.map_eq_some_iff.mp hc
        obtain ⟨l, e1, e2⟩ := zq_s1_le hle hs
        exact ⟨l, by rw [e1]; rfl, e2⟩
      · cases hc
    · split at hc
      · obtain ⟨l', hs, rfl⟩ := Option.map_eq_some_iff.mp hc
        obtain ⟨l, e1, e2⟩ := zq_s2_le hle hs
        exact ⟨l, by rw [e1]; rfl, e2⟩
      · cases hc
    · split at hc
      · obtain ⟨l', hs, rfl⟩ := Option.map_eq_some_iff.mp hc
        obtain ⟨l, e1, e2⟩ := zq_s2_le hle hs
        exact ⟨l, by rw [e1]; rfl, e2⟩
      · cases hc
    · split at hc
      · obtain ⟨l', hs, rfl⟩ := Option.map_eq_some_iff.mp hc
        obtain ⟨l, e1, e2⟩ := zq_s1_le hle hs
        exact ⟨l, by rw [e1]; rfl, e2⟩
      · obtain ⟨l', hs, rfl⟩ := Option.map_eq_some_iff.mp hc
        obtain ⟨l, e1, e2⟩ := zq_s1_le hle hs
        exact ⟨l, by rw [e1]; rfl, e2⟩
      · cases hc
    · split at hc
      · obtain ⟨l', hs, rfl⟩ := Option.map_eq_some_iff.mp hc
        obtain ⟨l, e1, e2⟩ := zq_s1_le hle hs
        exact ⟨l, by rw [e1]; rfl, e2⟩
      · obtain ⟨l', hs, rfl⟩ := Option.map_eq_some_iff.mp hc
        obtain ⟨l, e1, e2⟩ := zq_s1_le hle hs
        exact ⟨l, by rw [e1]; rfl, e2⟩
      · cases hc
    · split at hc
      next x hx =>
        obtain ⟨l', hs, rfl⟩ := Option.map_eq_some_iff.mp hc
        obtain ⟨l, e1, e2⟩ := zq_s1_le hle hs
        exact ⟨l, by rw [hle.2 _ _ hx]; dsimp only; rw [e1]; rfl, e2⟩
      · cases hc
    · cases hc
  unfold zq_stp
  split
  all_goals first
    | exact h1
    | exact h2
    | exact zq_lst_m hle (zq_g3_m _ _ _ _ _ _) (zq_self (zq_g3_m _ _ _ _ _ _))
    | exact zq_lst_m hle (zq_g4_m _ _ _ _ _ _) (zq_self (zq_g4_m _ _ _ _ _ _))
    | exact zq_lst_m hle (zq_g5_m _ _ _ _ _ _) (zq_self (zq_g5_m _ _ _ _ _ _))
    | exact zq_lst_m hle (zq_g6_m _ _ _ _ _ _) (zq_self (zq_g6_m _ _ _ _ _ _))
    | exact zq_lst_m hle (zq_g7_m _ _ _ _ _ _ _ _) (zq_self (zq_g7_m _ _ _ _ _ _ _ _))
    | exact zq_lst_m hle (zq_g8_m _ _ _ _ _ _ _) (zq_self (zq_g8_m _ _ _ _ _ _ _))
    | exact zq_lst_m hle (zq_g9_m _ _ _ _ _ _ _ _) (zq_self (zq_g9_m _ _ _ _ _ _ _ _))
    | exact zq_lst_m hle (zq_ga_m _ _ _ _ _ _ _ _) (zq_self (zq_ga_m _ _ _ _ _ _ _ _))
    | (intro c' hc; cases hc)
theorem zq_stp_none {sc : zX} {al : Bool} {d o pc : Nat} {ini : Bool} {ins : Instr} {lv' lv : List (Option Value)} {st : List Value} {h : zH} {rt : Option FieldType} (hs : zq_stp sc al d o ini ins pc lv' st h = none) (hc : (∃ v, zq_ret rt ins st = some v) ∨ (∃ x, zq_cal o ins st h = some x)) : zq_stp sc al d o ini ins pc lv st h = none := by
  cases ins <;> first
    | rfl
    | (exfalso
       rcases hc with ⟨v, hv⟩ | ⟨x, hx⟩
       · simp [zq_ret] at hv
       · simp [zq_cal] at hx
       done)
    | (rename_i i1
       have h1 : zq_ga d o (.invokestatic i1) pc lv' st h = none := hs
       show zq_ga d o (.invokestatic i1) pc lv st h = none
       rw [zq_ga_m d o _ pc lv lv' st h, h1]
       rfl)
    | (rename_i i1
       have h1 : zq_ga d o (.invokespecial i1) pc lv' st h = none := hs
       show zq_ga d o (.invokespecial i1) pc lv st h = none
       rw [zq_ga_m d o _ pc lv lv' st h, h1]
       rfl)
theorem zq_run_le {sc : zX} {al : Bool} : ∀ (n d k pc : Nat) (lv lv' : List (Option Value)) (st : List Value) (h : zH) (o : Option Value × zH), zq_lvle lv' lv → zq_run sc al n d k pc lv' st h = some o → zq_run sc al n d k pc lv st h = some o := by
  intro n
  induction n with
  | zero => intro d k pc lv lv' st h o hle hr; cases hr
  | succ n ih =>
    intro d k pc lv lv' st h o hle hr
    unfold zq_run at hr ⊢
    split at hr
    · cases hr
    next ins len hcode =>
    split at hr
    next c hc =>
      obtain ⟨l, e1, e2⟩ := zq_stp_le hle c hc
      rw [e1]
      exact ih _ _ _ _ _ _ _ _ e2 hr
    next hnone =>
      split at hr
      next v hv =>
        rw [zq_stp_none (lv := lv) hnone (Or.inl ⟨v, hv⟩)]
        exact hr
      next =>
        split at hr
        · cases hr
        next k' as rest hcal =>
        rw [zq_stp_none (lv := lv) (rt := none) hnone (Or.inr ⟨_, hcal⟩)]
        dsimp only
        split at hr
        · cases hr
        next d' =>
        split at hr
        · cases hr
        next v1 h1 hr1 => exact ih _ _ _ _ _ _ _ _ hle hr
/-- forget what is dead -/
theorem zq_fg {sc : zX} {d k pc : Nat} {lv : List (Option Value)} {st : List Value} {h : zH} {o : Option Value × zH} (lv' : List (Option Value)) (hle : zq_lvle lv' lv) (kk : zq_wp sc d k pc lv' st h o) : zq_wp sc d k pc lv st h o := by
  obtain ⟨n, hn⟩ := kk
  exact ⟨n, zq_run_le n d k pc lv lv' st h o hle hn⟩
theorem zq_lvle_nil : zq_lvle [] [] := ⟨rfl, fun _ _ h => h⟩
theorem zq_lvle_n {x : Option Value} {a b : List (Option Value)} (h : zq_lvle a b) : zq_lvle (none :: a) (x :: b) := by
  refine ⟨by simp [h.1], fun i v hv => ?_⟩
  cases i with
  | zero => cases hv
  | succ j => exact h.2 j v hv
theorem zq_lvle_s {x : Option Value} {a b : List (Option Value)} (h : zq_lvle a b) : zq_lvle (x :: a) (x :: b) := by
  refine ⟨by simp [h.1], fun i v hv => ?_⟩
  cases i with
  | zero => exact hv
  | succ j => exact h.2 j v hv
/-- references that may be null, in locals -/
theorem zr_aldQ {sc : zX} {d k pc : Nat} {lv : List (Option Value)} {st : List Value} {h : zH} {o : Option Value × zH} {i : Nat} {w : Option Nat} (hc : zq_code k pc = some (.aload i, 2)) (hl : zq_ld lv i = some (va_rf w)) (kk : zq_wp sc d k (pc + 2) lv (va_rf w :: st) h o) : zq_wp sc d k pc lv st h o := by
  refine zq_w1 (c := (pc + 2, lv, va_rf w :: st, h)) hc ?_ kk
  show zq_g2 (.aload i) pc lv st h = _
  unfold zq_g2
  cases w with
  | none => dsimp only; rw [hl]; rfl
  | some a => dsimp only; rw [hl]; rfl
theorem zr_aldQn {sc : zX} {d k pc : Nat} {lv : List (Option Value)} {st : List Value} {h : zH} {o : Option Value × zH} {i : Fin 4} {w : Option Nat} (hc : zq_code k pc = some (.aload_n i, 1)) (hl : zq_ld lv i.val = some (va_rf w)) (kk : zq_wp sc d k (pc + 1) lv (va_rf w :: st) h o) : zq_wp sc d k pc lv st h o := by
  refine zq_w1 (c := (pc + 1, lv, va_rf w :: st, h)) hc ?_ kk
  show zq_g2 (.aload_n i) pc lv st h = _
  unfold zq_g2
  cases w with
  | none => dsimp only; rw [hl]; rfl
  | some a => dsimp only; rw [hl]; rfl
theorem zr_astQn {sc : zX} {d k pc : Nat} {lv lv' : List (Option Value)} {st : List Value} {h : zH} {o : Option Value × zH} {i : Fin 4} {w : Option Nat} (hc : zq_code k pc = some (.astore_n i, 1)) (hl : zq_s1 lv i.val (va_rf w) = some lv') (kk : zq_wp sc d k (pc + 1) lv' st h o) : zq_wp sc d k pc lv (va_rf w :: st) h o := by
  refine zq_w1 (c := (pc + 1, lv', st, h)) hc ?_ kk
  show zq_g2 (.astore_n i) pc lv (va_rf w :: st) h = _
  unfold zq_g2
  cases w with
  | none => dsimp only [va_rf] at hl ⊢; rw [hl]; rfl
  | some a => dsimp only [va_rf] at hl ⊢; rw [hl]; rfl
def zo_okb (w : Option Nat) : Bool := match w with
  | none => true
  | some i => decide (i < 38 ∨ 64 ≤ i)
theorem zo_okb_ok {w : Option Nat} (h : zo_okb w = true) : zo_ok w := by
  intro i hi
  subst hi
  exact of_decide_eq_true h
theorem zo_lj {α β : Type} {x : α} {f : α → β} {o : β} (h : zo_l x f = o) : ∃ j, j = x ∧ f j = o := ⟨x, rfl, h⟩
theorem zo_lx {α β : Type} {x : α} {f : α → β} {o : β} (h : zo_l x f = o) : ∃ g, g = f ∧ zo_l x g = o := ⟨f, rfl, h⟩
theorem zo_ne {x c : Int32} {z : Int} (h : ¬ x = c) (hc : c.toInt = z) : x.toInt ≠ z := fun e => h (Int32.toInt_inj.mp (e.trans hc.symm))
theorem zr_istn {sc : zX} {d k pc : Nat} {lv : List (Option Value)} {st : List Value} {h : zH} {o : Option Value × zH} {i : Fin 4} {x : Int32} (lv' : List (Option Value)) (hc : zq_code k pc = some (.istore_n i, 1)) (hl : zq_s1 lv i.val (.int x) = some lv') (kk : zq_wp sc d k (pc + 1) lv' st h o) : zq_wp sc d k pc lv (.int x :: st) h o := by
  refine zq_w1 (c := (pc + 1, lv', st, h)) hc ?_ kk
  show (zq_s1 lv i.val (.int x)).map (fun l => (pc + 1, l, st, h)) = _
  rw [hl]
  rfl
