/-! a run of the small machine is a run of the machine -/
theorem zq_g1_h {o pc : Nat} {ins : Instr} {lv : List (Option Value)} {st : List Value} {h : zH} {c' : zC} (hg : zq_g1 o ins pc lv st h = some c') : c'.2.2.2 = h := by
  unfold zq_g1 at hg
  repeat' split at hg
  all_goals first | (cases hg; rfl) | cases hg
theorem zq_g2_h {pc : Nat} {ins : Instr} {lv : List (Option Value)} {st : List Value} {h : zH} {c' : zC} (hg : zq_g2 ins pc lv st h = some c') : c'.2.2.2 = h := by
  unfold zq_g2 at hg
  repeat' split at hg
  all_goals first | (cases hg; rfl) | (obtain ⟨_, _, rfl⟩ := Option.map_eq_some_iff.mp hg; rfl) | cases hg
theorem zq_g3_h {pc : Nat} {ins : Instr} {lv : List (Option Value)} {st : List Value} {h : zH} {c' : zC} (hg : zq_g3 ins pc lv st h = some c') : c'.2.2.2 = h := by
  unfold zq_g3 at hg
  repeat' split at hg
  all_goals first | (cases hg; rfl) | cases hg
theorem zq_g4_h {pc : Nat} {ins : Instr} {lv : List (Option Value)} {st : List Value} {h : zH} {c' : zC} (hg : zq_g4 ins pc lv st h = some c') : c'.2.2.2 = h := by
  unfold zq_g4 at hg
  repeat' split at hg
  all_goals first | (cases hg; rfl) | cases hg
theorem zq_g5_h {pc : Nat} {ins : Instr} {lv : List (Option Value)} {st : List Value} {h : zH} {c' : zC} (hg : zq_g5 ins pc lv st h = some c') : c'.2.2.2 = h := by
  unfold zq_g5 at hg
  repeat' split at hg
  all_goals first | (cases hg; rfl) | (obtain ⟨_, _, rfl⟩ := Option.map_eq_some_iff.mp hg; rfl) | cases hg
theorem zq_g6_h {pc : Nat} {ins : Instr} {lv : List (Option Value)} {st : List Value} {h : zH} {c' : zC} (hg : zq_g6 ins pc lv st h = some c') : c'.2.2.2 = h := by
  unfold zq_g6 at hg
  repeat' split at hg
  all_goals first | (cases hg; rfl) | (obtain ⟨_, _, rfl⟩ := Option.map_eq_some_iff.mp hg; rfl) | cases hg
theorem zq_pf_h {h h' : zH} {ci o k : Nat} {v : Value} (hv : zq_pf h ci o k v = some h') : h'.1 = h.1 := by
  unfold zq_pf at hv
  repeat' split at hv
  all_goals first | (cases hv; rfl) | cases hv
theorem zq_g7_h {o pc : Nat} {ini : Bool} {ins : Instr} {lv : List (Option Value)} {st : List Value} {h : zH} {c' : zC} (hg : zq_g7 o ini ins pc lv st h = some c') : c'.2.2.2.1 = h.1 := by
  unfold zq_g7 at hg
  repeat' split at hg
  all_goals first | (cases hg; rfl) | (obtain ⟨_, hv, rfl⟩ := Option.map_eq_some_iff.mp hg; first | exact zq_pf_h hv | rfl) | cases hg
theorem zq_g8_h {sc : zX} {pc : Nat} {ins : Instr} {lv : List (Option Value)} {st : List Value} {h : zH} {c' : zC} (hg : zq_g8 sc ins pc lv st h = some c') : c'.2.2.2.1 = h.1 := by
  have hX : ∀ {t a : Nat} {i x : Int32} {h' : zH}, zq_wrX t h a i x = some h' → h'.1 = h.1 := by
    intro t a i x h' hv
    unfold zq_wrX at hv
    repeat' split at hv
    all_goals first | (cases hv; rfl) | cases hv
  have hL : ∀ {a : Nat} {i : Int32} {x : Int64} {h' : zH}, zq_wrL h a i x = some h' → h'.1 = h.1 := by
    intro a i x h' hv
    unfold zq_wrL at hv
    repeat' split at hv
    all_goals first | (cases hv; rfl) | cases hv
  have hR : ∀ {a : Nat} {i : Int32} {x : Nat} {h' : zH}, zq_wrR h a i x = some h' → h'.1 = h.1 := by
    intro a i x h' hv
    unfold zq_wrR at hv
    repeat' split at hv
    all_goals first | (cases hv; rfl) | cases hv
  unfold zq_g8 at hg
  repeat' split at hg
  all_goals first | (cases hg; rfl) | (obtain ⟨_, hv, rfl⟩ := Option.map_eq_some_iff.mp hg; first | exact hX hv | exact hL hv | exact hR hv | rfl) | cases hg
theorem zq_g9_h {al : Bool} {o pc : Nat} {ins : Instr} {lv : List (Option Value)} {st : List Value} {h : zH} {c' : zC} (hg : zq_g9 al o ins pc lv st h = some c') : ∃ kd, c'.2.2.2 = zq_mk h kd := by
  unfold zq_g9 at hg
  repeat' split at hg
  all_goals first | (cases hg; exact ⟨_, rfl⟩) | cases hg
theorem zq_ga_h {d o pc : Nat} {ins : Instr} {lv : List (Option Value)} {st : List Value} {h : zH} {c' : zC} (hg : zq_ga d o ins pc lv st h = some c') : c'.2.2.2 = h := by
  unfold zq_ga at hg
  repeat' split at hg
  all_goals first | (cases hg; rfl) | cases hg
def zq_le (h h' : zH) : Prop := h.1.length ≤ h'.1.length ∧ zq_ns h ≤ zq_ns h'
theorem zq_le_of_eq {h h' : zH} (e : h'.1 = h.1) : zq_le h h' := by
  unfold zq_le zq_ns
  rw [e]
  exact ⟨Nat.le_refl _, Nat.le_refl _⟩
theorem zq_stp_h {sc : zX} {al : Bool} {d o pc : Nat} {ini : Bool} {ins : Instr} {lv : List (Option Value)} {st : List Value} {h : zH} {c' : zC} (hg : zq_stp sc al d o ini ins pc lv st h = some c') : zq_le h c'.2.2.2 := by
  unfold zq_stp at hg
  split at hg
  all_goals first
    | exact zq_le_of_eq (congrArg Prod.fst (zq_g1_h hg))
    | exact zq_le_of_eq (congrArg Prod.fst (zq_g2_h hg))
    | exact zq_le_of_eq (congrArg Prod.fst (zq_g3_h hg))
    | exact zq_le_of_eq (congrArg Prod.fst (zq_g4_h hg))
    | exact zq_le_of_eq (congrArg Prod.fst (zq_g5_h hg))
    | exact zq_le_of_eq (congrArg Prod.fst (zq_g6_h hg))
    | exact zq_le_of_eq (zq_g7_h hg)
    | exact zq_le_of_eq (zq_g8_h hg)
    | exact zq_le_of_eq (congrArg Prod.fst (zq_ga_h hg))
    | (obtain ⟨kd, hk⟩ := zq_g9_h hg; rw [hk]; exact ⟨by rw [zq_len_mk]; omega, by rw [zq_ns_mk]; omega⟩)
    | cases hg
theorem zq_run_h {sc : zX} {al : Bool} : ∀ (n d k pc : Nat) (lv : List (Option Value)) (st : List Value) (h : zH) (v : Option Value) (hF : zH), zq_run sc al n d k pc lv st h = some (v, hF) → zq_le h hF := by
  intro n
  induction n with
  | zero => intro d k pc lv st h v hF hr; cases hr
  | succ n ih =>
    intro d k pc lv st h v hF hr
    unfold zq_run at hr
    split at hr
    · cases hr
    · split at hr
      next c hc =>
        have h1 := zq_stp_h hc
        have h2 := ih _ _ _ _ _ _ _ _ hr
        exact ⟨Nat.le_trans h1.1 h2.1, Nat.le_trans h1.2 h2.2⟩
      next =>
        split at hr
        · cases hr; exact ⟨Nat.le_refl _, Nat.le_refl _⟩
        · split at hr
          · cases hr
          · split at hr
            · cases hr
            · split at hr
              · cases hr
              next v1 h1 hr1 =>
                have e1 := ih _ _ _ _ _ _ _ _ hr1
                have e2 := ih _ _ _ _ _ _ _ _ hr
                exact ⟨Nat.le_trans e1.1 e2.1, Nat.le_trans e1.2 e2.2⟩
section ZG
variable {dC : Nat → ClassId} {dI : Nat → Nat → Nat} {cA : Nat → ClassId} {sz : Nat} {ad : Nat → Nat} {sc : zX}
variable {p : Program} {l : Launch} {e : Env} {R : Room} {s : State} {m : MethodId} {args : Array Value} {below : List Frame} {meth : Method} {c : Code} {H : Heap} {locs : List Loc} {cells slots : Nat} {Q : State → Prop}
variable {cc : ByteArray} {ls : Array Slot} {nL pc o len : Nat} {ini : Bool} {ins : Instr} {lv : List (Option Value)} {st : List Value} {h : zH} {c' : zC}
theorem zq_stp_ok {al : Bool} {d : Nat} (cx : zq_cx dC dI cA sz ad sc p s m args meth c cc nL o ini) (hd : decode cc pc = .ok (ins, len)) (hn : zq_lnk ins len = true) (hg : zq_stp sc al d o ini ins pc lv st h = some c') (hl : zq_lr sz ad ls nL lv) (hP : va_P (dC, dI) zq_cl (zq_ws cA sz ad h) H) (hS : va_S (fun q => sz ≤ q) s.heap H locs)
    (hRf : R.frames = d) (hRl : R.locals = 40 * d) (hacc : al = true → s.heap.size + cells = sz + h.1.length) (hrc : cells + (c'.2.2.2.1.length - h.1.length) ≤ R.cells) (hrs : slots + (zq_ns c'.2.2.2 - zq_ns h) ≤ R.slots)
    (kk : ∀ H' locs' ls', zq_lr sz ad ls' nL c'.2.1 → va_P (dC, dI) zq_cl (zq_ws cA sz ad c'.2.2.2) H' → va_S (fun q => sz ≤ q) s.heap H' locs' → W p l e R s m args below meth c H' locs' (cells + (c'.2.2.2.1.length - h.1.length)) (slots + (zq_ns c'.2.2.2 - zq_ns h)) Q (F0 m c'.1 ls' (c'.2.2.1.map (zq_tr sz ad)))) : W p l e R s m args below meth c H locs cells slots Q (F0 m pc ls (st.map (zq_tr sz ad))) := by
  have same : c'.2.1 = lv → c'.2.2.2 = h → W p l e R s m args below meth c H locs cells slots Q (F0 m c'.1 ls (c'.2.2.1.map (zq_tr sz ad))) := by
    intro e1 e2
    have k1 := kk H locs ls (by rw [e1]; exact hl) (by rw [e2]; exact hP) hS
    rw [e2, Nat.sub_self, Nat.sub_self] at k1
    exact k1
  have sameF : ∀ H' locs', c'.2.1 = lv → c'.2.2.2.1 = h.1 → va_P (dC, dI) zq_cl (zq_ws cA sz ad c'.2.2.2) H' → va_S (fun q => sz ≤ q) s.heap H' locs' → W p l e R s m args below meth c H' locs' cells slots Q (F0 m c'.1 ls (c'.2.2.1.map (zq_tr sz ad))) := by
    intro H' locs' e1 e2 hP' hS'
    have k1 := kk H' locs' ls (by rw [e1]; exact hl) hP' hS'
    have e3 : zq_ns c'.2.2.2 = zq_ns h := by unfold zq_ns; rw [e2]
    rw [e3, e2, Nat.sub_self, Nat.sub_self] at k1
    exact k1
  have sameL : ∀ ls', zq_lr sz ad ls' nL c'.2.1 → c'.2.2.2 = h → W p l e R s m args below meth c H locs cells slots Q (F0 m c'.1 ls' (c'.2.2.1.map (zq_tr sz ad))) := by
    intro ls' e1 e2
    have k1 := kk H locs ls' e1 (by rw [e2]; exact hP) hS
    rw [e2, Nat.sub_self, Nat.sub_self] at k1
    exact k1
  have new9 : ∀ H' locs', c'.2.1 = lv → va_P (dC, dI) zq_cl (zq_ws cA sz ad c'.2.2.2) H' → va_S (fun q => sz ≤ q) s.heap H' locs' → W p l e R s m args below meth c H' locs' (cells + (c'.2.2.2.1.length - h.1.length)) (slots + (zq_ns c'.2.2.2 - zq_ns h)) Q (F0 m c'.1 ls (c'.2.2.1.map (zq_tr sz ad))) := by
    intro H' locs' e1 hP' hS'
    exact kk H' locs' ls (by rw [e1]; exact hl) hP' hS'
  unfold zq_stp at hg
  split at hg
  all_goals first
    | exact zq_g1_ok cx hd hn hg hl same
    | exact zq_g2_ok cx hd hn hg hl sameL
    | exact zq_g3_ok cx hd hn hg same
    | exact zq_g4_ok cx hd hn hg same
    | exact zq_g5_ok cx hd hn hg same
    | exact zq_g6_ok cx hd hn hg same
    | exact zq_g7_ok cx hd hn hg hP hS sameF
    | exact zq_g8_ok cx hd hn hg hP hS sameF
    | exact zq_g9_ok cx hd hn hg hP hS hacc hrc hrs new9
    | exact zq_ga_ok cx hd hn hg hl hRf hRl (by omega) (by omega) same
    | cases hg
end ZG
theorem zq_mfacts {q : zq_I} {pz : Nat × Nat × Nat} (h : zq_mchk q pz = true) : plainName q.1.cls = true ∧ (q.1.cls ≠ "java/lang/invoke/MethodHandle" ∧ q.1.cls ≠ "java/lang/invoke/VarHandle") ∧ q.1.cls = zq_R q.2.2.2.2.1 ∧ Cond.initialized q.1.cls ∈ zq_WG ∧ (parseMethodDescriptor q.1.desc).map (fun d => d.parameters.length) = some (q.2.2.2.2.2.1 - (if q.2.2.2.2.2.2 = 0 then 0 else 1)) ∧ (q.2.2.2.2.2.2 = 0 → Cond.static q.1 ∈ zq_WG) ∧ (q.2.2.2.2.2.2 ≠ 0 → Cond.instanceMethod q.1 ∈ zq_WG) ∧ (q.2.2.2.2.2.2 = 1 → Cond.selects q.1.cls q.1 q.1 ∈ zq_WG) ∧ (q.2.2.2.2.2.2 = 2 → q.1.name = "<init>" ∧ q.2.2.2.1 = none) ∧ q.2.2.1 ≤ 21 ∧ (q.2.2.2.2.2.2 ≠ 0 → 1 ≤ q.2.2.2.2.2.1) := by
  unfold zq_mchk at h
  simp only [Bool.and_eq_true, decide_eq_true_eq] at h
  obtain ⟨⟨⟨⟨⟨⟨⟨⟨⟨h1, h2⟩, h3⟩, h4⟩, h5⟩, h6⟩, h7⟩, h8⟩, h9⟩, h10⟩ := h
  refine ⟨h1, h2, h3, zq_in h4, h5, fun hk => ?_, fun hk => ?_, fun hk => ?_, h8, h9, h10⟩
  · rw [if_pos hk] at h6; exact zq_in h6
  · rw [if_neg hk] at h6; exact zq_in h6
  · rw [if_pos hk] at h7; exact zq_in h7
theorem zq_own14 : ∀ q ∈ zq_MT, q.2.2.2.2.1 < 14 ∧ (q.2.2.2.2.2.2 ≠ 0 → q.2.2.2.2.1 < 11) := by
  have h : zq_MT.all (fun q => decide (q.2.2.2.2.1 < 14 ∧ (q.2.2.2.2.2.2 ≠ 0 → q.2.2.2.2.1 < 11))) = true := by decide +kernel
  intro q hq
  exact of_decide_eq_true (List.all_eq_true.mp h q hq)
def zq_Qc (dC : Nat → ClassId) (dI : Nat → Nat → Nat) (cA : Nat → ClassId) (sz : Nat) (ad : Nat → Nat) (v : Option Value) (hF : zH) : Array Value → State → Outcome → State → Prop := fun _ st oc t => oc = .returned (v.map (zq_tr sz ad)) ∧ va_P (dC, dI) zq_cl (zq_ws cA sz ad hF) t.heap ∧ va_F (fun q => sz ≤ q) st t
def zq_Pc (dC : Nat → ClassId) (dI : Nat → Nat → Nat) (cA : Nat → ClassId) (sz : Nat) (ad : Nat → Nat) (sc : zX) (al : Bool) (as : List Value) (h : zH) : Array Value → State → Prop := va_Pc (as.map (zq_tr sz ad)) (fun U => zq_env dC dI cA sz ad sc U U.heap ∧ va_P (dC, dI) zq_cl (zq_ws cA sz ad h) U.heap ∧ (al = true → U.heap.size = sz + h.1.length))
def zq_rm (d : Nat) (h hF : zH) : Room := { frames := d, cells := hF.1.length - h.1.length, slots := zq_ns hF - zq_ns h, locals := 40 * d }
def zq_MtP (dC : Nat → ClassId) (dI : Nat → Nat → Nat) (cA : Nat → ClassId) (sz : Nat) (ad : Nat → Nat) (sc : zX) (al : Bool) (l : Launch) (n : Nat) : Prop := ∀ (d k : Nat) (q : zq_I) (as : List Value) (h : zH) (v : Option Value) (hF : zH), zq_MT[k]? = some q → (zq_sls as).length ≤ q.2.2.1 → zq_run sc al n d k 0 (zq_ent q.2.2.1 as) [] h = some (v, hF) →
  Met l q.1 (zq_cw q :: zq_WG) (zq_rm d h hF) (zq_Pc dC dI cA sz ad sc al as h) (zq_Qc dC dI cA sz ad v hF) (hF.1.length - h.1.length) (zq_ns hF - zq_ns h) (fun q => sz ≤ q)
theorem zq_good {q : zq_I} (hq : zq_cw q ∈ zq_WG) : GoodIn zq_WG (zq_cw q :: zq_WG) := by
  have key : ∀ w ∈ zq_WG, w ∈ zq_WG ∧ ((w.onTables && w.keeps) = true ∨ ∃ ty, w = .arrayClass ty) := fun w hw => ⟨hw, good_of_word (List.mem_filter.mp hw).2⟩
  intro w hw
  rcases List.mem_cons.mp hw with rfl | h
  · exact key _ hq
  · exact key _ h
