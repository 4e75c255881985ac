/-! frames up to a stop, goal first -/
theorem zq_fr_mono {sc : zX} {al : Bool} {stop : Nat → Instr → Bool} {ds : Nat} : ∀ (n d k : Nat) (c cF : zC), zq_fr sc al stop ds n d k c = some cF → ∀ m, n ≤ m → zq_fr sc al stop ds m d k c = some cF := by
  intro n
  induction n with
  | zero => intro d k c cF hr; cases hr
  | succ n ih =>
    intro d k c cF hr m hm
    obtain ⟨m, rfl⟩ : ∃ m', m = m' + 1 := ⟨m - 1, by omega⟩
    have hnm : n ≤ m := by omega
    unfold zq_fr at hr ⊢
    split at hr
    · cases hr
    next x hcode =>
    split at hr
    next hs => rw [if_pos hs]; exact hr
    next hs =>
      rw [if_neg hs]
      split at hr
      next c1 hc => exact ih _ _ _ _ hr m hnm
      next =>
        split at hr
        · cases hr
        next y hcal =>
        split at hr
        · cases hr
        next d' =>
        split at hr
        · cases hr
        next r hr1 =>
        rw [zq_run_mono _ _ _ _ _ _ _ _ hr1 m hnm]
        exact ih _ _ _ _ hr m hnm
def zq_wq (sc : zX) (sp : Nat → Instr → Bool) (d k pc : Nat) (lv : List (Option Value)) (st : List Value) (h : zH) (o : zC → Prop) : Prop := ∃ n cF, zq_fr sc false sp 0 n d k (pc, lv, st, h) = some cF ∧ o cF
def zq_gq (sc : zX) (sp : Nat → Instr → Bool) (k : Nat) : Nat → zC → Option zC
  | 0, c => some c
  | n + 1, c => match zq_code k c.1 with
    | none => none
    | some x => if sp c.1 x.1 = true then none else match zq_stp sc false 0 (zq_own k) (zq_ini k) x.1 c.1 c.2.1 c.2.2.1 c.2.2.2 with
      | some c' => zq_gq sc sp k n c'
      | none => none
section ZW
variable {sc : zX} {sp : Nat → Instr → Bool} {d k pc : Nat} {lv : List (Option Value)} {st : List Value} {h : zH} {o : zC → Prop}
theorem zt_stop {x : Instr × Nat} (hc : zq_code k pc = some x) (hp : sp pc x.1 = true) (ho : o (pc, lv, st, h)) : zq_wq sc sp d k pc lv st h o := by
  refine ⟨1, (pc, lv, st, h), ?_, ho⟩
  unfold zq_fr
  simp only [hc, hp, if_true]
theorem zt_w1 {x : Instr × Nat} {c : zC} (hc : zq_code k pc = some x) (hp : sp pc x.1 = false) (hs : zq_stp sc false 0 (zq_own k) (zq_ini k) x.1 pc lv st h = some c) (kk : zq_wq sc sp d k c.1 c.2.1 c.2.2.1 c.2.2.2 o) : zq_wq sc sp d k pc lv st h o := by
  obtain ⟨n, cF, hn, hF⟩ := kk
  refine ⟨n + 1, cF, ?_, hF⟩
  unfold zq_fr
  simp only [hc, hp, hs]
  exact hn
theorem zt_ws' : ∀ (n : Nat) (c c' : zC), zq_gq sc sp k n c = some c' → zq_wq sc sp d k c'.1 c'.2.1 c'.2.2.1 c'.2.2.2 o → zq_wq sc sp d k c.1 c.2.1 c.2.2.1 c.2.2.2 o := by
  intro n
  induction n with
  | zero => intro c c' hg kk; cases hg; exact kk
  | succ n ih =>
    intro c c' hg kk
    unfold zq_gq at hg
    split at hg
    · cases hg
    next x hx =>
      split at hg
      · cases hg
      next hp =>
        split at hg
        next c1 h1 => exact zt_w1 hx (by simpa using hp) h1 (ih c1 c' hg kk)
        next => cases hg
theorem zt_wg (n : Nat) {pc' : Nat} {lv' : List (Option Value)} {st' : List Value} {h' : zH} (hg : zq_gq sc sp k n (pc, lv, st, h) = some (pc', lv', st', h')) (kk : zq_wq sc sp d k pc' lv' st' h' o) : zq_wq sc sp d k pc lv st h o := zt_ws' n (pc, lv, st, h) (pc', lv', st', h') hg kk
theorem zt_wc {x : Instr × Nat} {k' : Nat} {as rest : List Value} {v : Option Value} {h1 : zH} (hc : zq_code k pc = some x) (hp : sp pc x.1 = false) (hs : zq_stp sc false 0 (zq_own k) (zq_ini k) x.1 pc lv st h = none) (hcal : zq_cal (zq_own k) x.1 st h = some (k', as, rest)) (hm : zq_wm sc d k' as h (v, h1)) (kk : zq_wq sc sp (d + 1) k (pc + 3) lv (v.toList ++ rest) h1 o) : zq_wq sc sp (d + 1) k pc lv st h o := by
  obtain ⟨n1, e1⟩ := hm
  obtain ⟨n2, cF, e2, hF⟩ := kk
  refine ⟨max n1 n2 + 1, cF, ?_, hF⟩
  unfold zq_fr
  simp only [hc, hp, hs, hcal]
  rw [zq_run_mono _ _ _ _ _ _ _ _ e1 (max n1 n2) (Nat.le_max_left _ _)]
  exact zq_fr_mono _ _ _ _ _ e2 (max n1 n2) (Nat.le_max_right _ _)
theorem zt_if {x : Instr × Nat} (c : Prop) [Decidable c] (t e : Nat) {st' : List Value} (hc : zq_code k pc = some x) (hp0 : sp pc x.1 = false) (hs : zq_stp sc false 0 (zq_own k) (zq_ini k) x.1 pc lv st h = some (if c then t else e, lv, st', h)) (kt : c → zq_wq sc sp d k t lv st' h o) (kf : ¬ c → zq_wq sc sp d k e lv st' h o) : zq_wq sc sp d k pc lv st h o := by
  refine zt_w1 hc hp0 hs ?_
  show zq_wq sc sp d k (if c then t else e) lv st' h o
  by_cases hcc : c
  · rw [if_pos hcc]; exact kt hcc
  · rw [if_neg hcc]; exact kf hcc
theorem zt_op {α : Type} {x : Instr × Nat} {op : Option α} (g : α → zC) (hc : zq_code k pc = some x) (hp0 : sp pc x.1 = false) (hs : zq_stp sc false 0 (zq_own k) (zq_ini k) x.1 pc lv st h = op.map g) {v : α} (hv : op = some v) (kk : zq_wq sc sp d k (g v).1 (g v).2.1 (g v).2.2.1 (g v).2.2.2 o) : zq_wq sc sp d k pc lv st h o := zt_w1 hc hp0 (by rw [hs, hv]; rfl) kk
theorem zt_fld {i ci kf pz a : Nat} {v : Value} (hc : zq_code k pc = some (.getfield i, 3)) (hp0 : sp pc (.getfield i) = false) (hf : (zq_fps.getD (zq_own k) []).lookup i = some (ci, kf, pz)) (hci : ci < 11) (hv : zq_gf h ci a kf = some v) (kk : zq_wq sc sp d k (pc + 3) lv (v :: st) h o) : zq_wq sc sp d k pc lv (.ref a :: st) h o := by
  refine zt_w1 (c := (pc + 3, lv, v :: st, h)) hc hp0 ?_ kk
  show zq_g7 (zq_own k) (zq_ini k) (.getfield i) pc lv (.ref a :: st) h = _
  unfold zq_g7
  simp only [hf]
  rw [if_pos hci, hv]
  rfl
theorem zt_gI {i ci kf pz a : Nat} {v : Int32} (hc : zq_code k pc = some (.getfield i, 3)) (hp0 : sp pc (.getfield i) = false) (hf : (zq_fps.getD (zq_own k) []).lookup i = some (ci, kf, pz)) (hci : ci < 11) (ht : zq_tag (zq_ty ci kf) = 0) (hv : zo_gI h ci a kf = some v) (kk : zq_wq sc sp d k (pc + 3) lv (.int v :: st) h o) : zq_wq sc sp d k pc lv (.ref a :: st) h o := by
  refine zt_fld hc hp0 hf hci ?_ kk
  unfold zo_gI at hv
  unfold zq_gf
  split at hv
  next hk => rw [if_pos hk, ht]; cases hv; rfl
  next => cases hv
theorem zt_gR {i ci kf pz a : Nat} {v : Nat} (hc : zq_code k pc = some (.getfield i, 3)) (hp0 : sp pc (.getfield i) = false) (hf : (zq_fps.getD (zq_own k) []).lookup i = some (ci, kf, pz)) (hci : ci < 11) (ht : zq_tag (zq_ty ci kf) = 2) (hv : zo_gR h ci a kf = some v) (kk : zq_wq sc sp d k (pc + 3) lv (.ref v :: st) h o) : zq_wq sc sp d k pc lv (.ref a :: st) h o := by
  refine zt_fld hc hp0 hf hci ?_ kk
  unfold zo_gR at hv
  unfold zq_gf
  split at hv
  next hk => rw [if_pos hk, ht]; show some (va_rf (h.2.2.2 a kf)) = _; rw [hv]; rfl
  next => cases hv
theorem zt_iald {a : Nat} {i v : Int32} (hc : zq_code k pc = some (.iaload, 1)) (hp0 : sp pc (.iaload) = false) (hv : zq_rdI sc h a i = some v) (kk : zq_wq sc sp d k (pc + 1) lv (.int v :: st) h o) : zq_wq sc sp d k pc lv (.int i :: .ref a :: st) h o := zt_op (fun v => (pc + 1, lv, .int v :: st, h)) hc hp0 rfl hv kk
theorem zt_alen {a : Nat} {v : Int32} (hc : zq_code k pc = some (.arraylength, 1)) (hp0 : sp pc (.arraylength) = false) (hv : zq_len sc h a = some v) (kk : zq_wq sc sp d k (pc + 1) lv (.int v :: st) h o) : zq_wq sc sp d k pc lv (.ref a :: st) h o := zt_op (fun v => (pc + 1, lv, .int v :: st, h)) hc hp0 rfl hv kk
theorem zt_ts {dflt lo hi : Int} {offs : Array Int} {len t : Nat} {x : Int32} (hc : zq_code k pc = some (.tableswitch dflt lo hi offs, len)) (hp0 : sp pc (.tableswitch dflt lo hi offs) = false) (ht : zo_ts pc dflt lo hi offs x = some t) (kk : zq_wq sc sp d k t lv st h o) : zq_wq sc sp d k pc lv (.int x :: st) h o := by
  refine zt_w1 (c := (t, lv, st, h)) hc hp0 ?_ kk
  show zq_g6 (.tableswitch dflt lo hi offs) pc lv (.int x :: st) h = _
  unfold zq_g6
  unfold zo_ts at ht
  dsimp only
  split at ht
  next hq => rw [if_pos hq, ht]; rfl
  next hq =>
    rw [if_neg hq]
    split at ht
    next off ho => rw [ho]; dsimp only; rw [ht]; rfl
    next => cases ht
theorem zt_cv {i k' a : Nat} {pz : Nat × Nat} (q : zq_I) (as' rest : List Value) {v : Option Value} {h1 : zH} (hc : zq_code k pc = some (.invokevirtual i, 3)) (hp0 : sp pc (.invokevirtual i) = false) (hp : (zq_pps.getD (zq_own k) []).lookup i = some (k', pz)) (hq : zq_MT[k']? = some q) (hk : q.2.2.2.2.2.2 = 1) (hN : q.2.2.2.2.2.1 = as'.length + 1) (hcat : zq_cat rest ≤ 8) (hsl : (zq_sls (.ref a :: as')).length ≤ q.2.2.1) (hkd : zq_kd h a = some (0, q.2.2.2.2.1)) (hm : zq_wm sc d k' (.ref a :: as') h (v, h1)) (kk : zq_wq sc sp (d + 1) k (pc + 3) lv (v.toList ++ rest) h1 o) : zq_wq sc sp (d + 1) k pc lv (as'.reverse ++ .ref a :: rest) h o := by
  have e0 : as'.reverse ++ .ref a :: rest = (as'.reverse ++ [.ref a]) ++ rest := by simp
  have hl : (as'.reverse ++ [Value.ref a]).length = as'.length + 1 := by simp
  have e1 : (as'.reverse ++ .ref a :: rest).take (as'.length + 1) = as'.reverse ++ [.ref a] := by
    rw [e0, ← hl, List.take_left]
  have e2 : (as'.reverse ++ .ref a :: rest).drop (as'.length + 1) = rest := by
    rw [e0, ← hl, List.drop_left]
  have e3 : ((as'.reverse ++ .ref a :: rest).take (as'.length + 1)).reverse = .ref a :: as' := by rw [e1]; simp
  refine zt_wc hc hp0 rfl (k' := k') (as := .ref a :: as') (rest := rest) ?_ hm kk
  · unfold zq_cal
    dsimp only
    simp only [hp, hq]
    rw [if_pos]
    · rw [hN, e3, e2]
    · refine ⟨hk, ?_, ?_, ?_, Or.inr ?_⟩
      · rw [hN]; simp
      · rw [hN, e2]; exact hcat
      · rw [hN, e3]; exact hsl
      · unfold zq_rcv
        have e4 : (as'.reverse ++ .ref a :: rest)[q.2.2.2.2.2.1 - 1]? = some (.ref a) := by
          rw [hN, List.getElem?_append_right (by simp)]
          simp
        rw [e4]
        exact decide_eq_true hkd
theorem zt_cs {i k' : Nat} {pz : Nat × Nat} (q : zq_I) (as rest : List Value) {v : Option Value} {h1 : zH} (hc : zq_code k pc = some (.invokestatic i, 3)) (hp0 : sp pc (.invokestatic i) = false) (hp : (zq_pps.getD (zq_own k) []).lookup i = some (k', pz)) (hk' : k' < 1000) (hq : zq_MT[k']? = some q) (hk : q.2.2.2.2.2.2 = 0) (hN : q.2.2.2.2.2.1 = as.length) (hcat : zq_cat rest ≤ 8) (hsl : (zq_sls as).length ≤ q.2.2.1) (hm : zq_wm sc d k' as h (v, h1)) (kk : zq_wq sc sp (d + 1) k (pc + 3) lv (v.toList ++ rest) h1 o) : zq_wq sc sp (d + 1) k pc lv (as.reverse ++ rest) h o := by
  have hl : as.reverse.length = as.length := by simp
  have e1 : (as.reverse ++ rest).take as.length = as.reverse := by rw [← hl, List.take_left]
  have e2 : (as.reverse ++ rest).drop as.length = rest := by rw [← hl, List.drop_left]
  refine zt_wc hc hp0 ?_ (k' := k') (as := as) (rest := rest) ?_ hm kk
  · show zq_ga 0 (zq_own k) (.invokestatic i) pc lv (as.reverse ++ rest) h = none
    unfold zq_ga
    rw [if_pos rfl]
  · unfold zq_cal
    dsimp only
    simp only [hp, hq]
    rw [if_pos]
    · rw [hN, e1, e2, List.reverse_reverse]
    · refine ⟨hk, ?_, ?_, ?_, Or.inl trivial⟩
      · rw [hN]; simp
      · rw [hN, e2]; exact hcat
      · rw [hN, e1, List.reverse_reverse]; exact hsl
end ZW
