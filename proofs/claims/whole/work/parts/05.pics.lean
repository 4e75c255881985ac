/-! the small machine is the machine: pictures of its store, and one step of it -/
def zq_adr (sz : Nat) (ad : Nat → Nat) (i : Nat) : Nat := if i < 64 then ad i else sz + (i - 64)
def zq_tr (sz : Nat) (ad : Nat → Nat) (v : Value) : Value := match v with
  | .ref i => .ref (zq_adr sz ad i)
  | v => v
def zq_tys (cA : Nat → ClassId) : List (ClassId × FieldType) := [(cA 1, .int), (cA 2, .long), (cA 3, .char), (cA 4, .boolean), (cA 5, .object "RaffleArmy$State"), (cA 6, .object "RaffleArmy$Notes")]
def zq_ce (cA : Nat → ClassId) (sz : Nat) (ad : Nat → Nat) (kd : zK) (s : zS) (i : Nat) : va_E := match kd with
  | (0, ci) => .inr (ci, (List.range (zq_N ci)).map (fun k => zq_tr sz ad (zq_fv (zq_tag (zq_ty ci k)) s i k)))
  | (1, n) => .inl (cA 1, n, .inl (s.1 i))
  | (2, n) => .inl (cA 2, n, .inr (.inl (s.2.1 i)))
  | (3, n) => .inl (cA 3, n, .inl (s.1 i))
  | (4, n) => .inl (cA 4, n, .inl (s.1 i))
  | (t, n) => .inl (cA t, n, .inr (.inr (.inr (.inr (fun k => (s.2.2 i k).map (zq_adr sz ad))))))
def zq_ws (cA : Nat → ClassId) (sz : Nat) (ad : Nat → Nat) (h : zH) : va_W := h.1.mapIdx (fun j kd => (sz + j, zq_ce cA sz ad kd h.2 (64 + j)))
theorem zq_ws_get {cA : Nat → ClassId} {sz : Nat} {ad : Nat → Nat} {h : zH} {j : Nat} {kd : zK} (hj : h.1[j]? = some kd) : (zq_ws cA sz ad h)[j]? = some (sz + j, zq_ce cA sz ad kd h.2 (64 + j)) := by
  unfold zq_ws
  rw [List.getElem?_mapIdx, hj]
  rfl
theorem zq_kd_at {h : zH} {o : Nat} {kd : zK} (hk : zq_kd h o = some kd) : ∃ j, o = 64 + j ∧ h.1[j]? = some kd := by
  unfold zq_kd at hk
  split at hk
  · exact ⟨o - 64, by omega, hk⟩
  · cases hk
theorem zq_adr_new (sz : Nat) (ad : Nat → Nat) (j : Nat) : zq_adr sz ad (64 + j) = sz + j := by
  unfold zq_adr
  rw [if_neg (by omega)]
  congr 1
  omega
theorem zq_D (cA : Nat → ClassId) (sz : Nat) (ad : Nat → Nat) (h : zH) : va_D (fun q => sz ≤ q) (zq_ws cA sz ad h) := by
  refine ⟨fun i j p q hi hj hpq => ?_, fun k q hk => ?_⟩
  · unfold zq_ws at hi hj
    rw [List.getElem?_mapIdx] at hi hj
    cases h1 : h.1[i]? with
    | none => rw [h1] at hi; cases hi
    | some a =>
      cases h2 : h.1[j]? with
      | none => rw [h2] at hj; cases hj
      | some b =>
        rw [h1] at hi; rw [h2] at hj
        cases hi; cases hj
        have h3 : sz + i = sz + j := hpq
        omega
  · unfold zq_ws at hk
    rw [List.getElem?_mapIdx] at hk
    cases h1 : h.1[k]? with
    | none => rw [h1] at hk; cases hk
    | some a => rw [h1] at hk; cases hk; exact Nat.le_add_right _ _
theorem zq_ce_row {cA : Nat → ClassId} {sz : Nat} {ad : Nat → Nat} {kd : zK} {s s' : zS} {i : Nat} (h1 : s'.1 i = s.1 i) (h2 : s'.2.1 i = s.2.1 i) (h3 : s'.2.2 i = s.2.2 i) : zq_ce cA sz ad kd s' i = zq_ce cA sz ad kd s i := by
  have hf : ∀ t k, zq_fv t s' i k = zq_fv t s i k := by
    intro t k
    unfold zq_fv
    split
    · rw [h1]
    · rw [h2]
    · rw [h3]
  unfold zq_ce
  split
  · simp only [hf]
  · rw [h1]
  · rw [h2]
  · rw [h1]
  · rw [h1]
  · rw [h3]
theorem zq_ws_set {cA : Nat → ClassId} {sz : Nat} {ad : Nat → Nat} {h : zH} {j : Nat} {kd : zK} {s' : zS} (hj : h.1[j]? = some kd) (hr : ∀ i, i ≠ 64 + j → s'.1 i = h.2.1 i ∧ s'.2.1 i = h.2.2.1 i ∧ s'.2.2 i = h.2.2.2 i) :
    zq_ws cA sz ad (h.1, s') = (zq_ws cA sz ad h).set j (sz + j, zq_ce cA sz ad kd s' (64 + j)) := by
  apply List.ext_getElem?
  intro k
  unfold zq_ws
  rw [List.getElem?_mapIdx, List.getElem?_set, List.getElem?_mapIdx]
  by_cases hk : j = k
  · subst hk
    have hlt : j < (List.mapIdx (fun j kd => (sz + j, zq_ce cA sz ad kd h.2 (64 + j))) h.1).length := by
      rw [List.length_mapIdx]
      exact (List.getElem?_eq_some_iff.mp hj).1
    rw [if_pos rfl, if_pos hlt]
    show Option.map _ h.1[j]? = _
    rw [hj]
    rfl
  · rw [if_neg hk]
    show Option.map _ h.1[k]? = _
    cases h.1[k]? with
    | none => rfl
    | some b =>
      obtain ⟨r1, r2, r3⟩ := hr (64 + k) (by omega)
      show some (sz + k, zq_ce cA sz ad b s' (64 + k)) = some (sz + k, zq_ce cA sz ad b h.2 (64 + k))
      rw [zq_ce_row r1 r2 r3]
theorem zq_ws_app {cA : Nat → ClassId} {sz : Nat} {ad : Nat → Nat} (h : zH) (kd : zK) : zq_ws cA sz ad (zq_mk h kd) = zq_ws cA sz ad h ++ [(sz + h.1.length, zq_ce cA sz ad kd (zq_z0 h.2 (64 + h.1.length)) (64 + h.1.length))] := by
  unfold zq_ws zq_mk
  rw [List.mapIdx_append]
  congr 1
  · apply List.ext_getElem?
    intro k
    rw [List.getElem?_mapIdx, List.getElem?_mapIdx]
    cases hb : h.1[k]? with
    | none => rfl
    | some b =>
      have hlt : k < h.1.length := (List.getElem?_eq_some_iff.mp hb).1
      show some (sz + k, zq_ce cA sz ad b (zq_z0 h.2 (64 + h.1.length)) (64 + k)) = some (sz + k, zq_ce cA sz ad b h.2 (64 + k))
      have hne : ¬ (64 + k = 64 + h.1.length) := by omega
      rw [zq_ce_row (s := h.2)]
      · funext b; exact if_neg hne
      · funext b; exact if_neg hne
      · funext b; exact if_neg hne
  · simp
/-- the locals -/
def zq_pr (sz : Nat) (ad : Nat → Nat) (lv : List (Option Value)) : List (Nat × Value) := (List.range lv.length).filterMap (fun i => (zq_ld lv i).map (fun v => (i, zq_tr sz ad v)))
theorem zq_ld_lt {lv : List (Option Value)} {i : Nat} {v : Value} (h : zq_ld lv i = some v) : lv[i]? = some (some v) := by
  unfold zq_ld at h
  split at h
  next w hw => cases h; exact hw
  next => cases h
theorem zq_pr_mem {sz : Nat} {ad : Nat → Nat} {lv : List (Option Value)} {i : Nat} {w : Value} : (i, w) ∈ zq_pr sz ad lv ↔ ∃ v, zq_ld lv i = some v ∧ w = zq_tr sz ad v := by
  unfold zq_pr
  rw [List.mem_filterMap]
  constructor
  · rintro ⟨j, -, h⟩
    cases hv : zq_ld lv j with
    | none => rw [hv] at h; cases h
    | some v =>
      rw [hv] at h
      cases h
      exact ⟨v, hv, rfl⟩
  · rintro ⟨v, hv, rfl⟩
    refine ⟨i, List.mem_range.mpr ?_, by rw [hv]; rfl⟩
    exact (List.getElem?_eq_some_iff.mp (zq_ld_lt hv)).1
def zq_lr (sz : Nat) (ad : Nat → Nat) (ls : Array Slot) (nL : Nat) (lv : List (Option Value)) : Prop := lv_has ls nL (zq_pr sz ad lv) ∧ lv.length = nL
theorem zq_lr_at {sz : Nat} {ad : Nat → Nat} {ls : Array Slot} {nL : Nat} {lv : List (Option Value)} {i : Nat} {v : Value} (h : zq_lr sz ad ls nL lv) (hv : zq_ld lv i = some v) : ls[i]? = some (.val (zq_tr sz ad v)) := h.1.2.2 (i, zq_tr sz ad v) (zq_pr_mem.mpr ⟨v, hv, rfl⟩)
theorem zq_tr_cat (sz : Nat) (ad : Nat → Nat) (v : Value) : (zq_tr sz ad v).category = v.category := by cases v <;> rfl
theorem zq_ld_set {lv : List (Option Value)} {i j : Nat} {x : Option Value} (h : i < lv.length) : zq_ld (lv.set i x) j = if i = j then x else zq_ld lv j := by
  unfold zq_ld
  rw [List.getElem?_set]
  by_cases hij : i = j
  · subst hij
    rw [if_pos rfl, if_pos h, if_pos rfl]
    cases x <;> rfl
  · rw [if_neg hij, if_neg hij]
theorem zq_clr_len (lv : List (Option Value)) (i : Nat) : (zq_clr lv i).length = lv.length := by
  unfold zq_clr
  split
  · rfl
  · split
    · rfl
    · split
      · rw [List.length_set]
      · rw [List.length_set]
      · rfl
theorem zq_clr_ld {lv : List (Option Value)} {i j : Nat} {v : Value} (h : zq_ld (zq_clr lv i) j = some v) : zq_ld lv j = some v ∧ (j + 1 = i → v.category = 2 → ∃ w, zq_ld lv i = some w) := by
  unfold zq_clr at h
  split at h
  next w hw => exact ⟨h, fun _ _ => ⟨w, by unfold zq_ld; rw [hw]⟩⟩
  next hn =>
    split at h
    next => exact ⟨h, fun hj => by omega⟩
    next k =>
      split at h
      next x hx =>
        rw [zq_ld_set ((List.getElem?_eq_some_iff.mp hx).1)] at h
        split at h
        · cases h
        · exact ⟨h, fun hj => by omega⟩
      next x hx =>
        rw [zq_ld_set ((List.getElem?_eq_some_iff.mp hx).1)] at h
        split at h
        · cases h
        · exact ⟨h, fun hj => by omega⟩
      next h1 h2 =>
        refine ⟨h, fun hj hc => ?_⟩
        have hjk : j = k := by omega
        subst hjk
        have h3 := zq_ld_lt h
        cases v with
        | long x => exact absurd h3 (h1 x)
        | double x => exact absurd h3 (h2 x)
        | int x => cases hc
        | float x => cases hc
        | null => cases hc
        | ref x => cases hc
        | retAddr x => cases hc
/-- a place that holds a value is not the second half of another -/
theorem zq_lr_half {sz : Nat} {ad : Nat → Nat} {ls : Array Slot} {nL : Nat} {lv : List (Option Value)} {j : Nat} {v w : Value} (h : zq_lr sz ad ls nL lv) (hv : zq_ld lv j = some v) (hc : v.category = 2) (hw : zq_ld lv (j + 1) = some w) : False := by
  have h1 := zq_lr_at h hv
  have h2 := zq_lr_at h hw
  have h3 := h.1.2.1.1 j _ h1 (by rw [zq_tr_cat]; exact hc)
  rw [h2] at h3
  cases h3
theorem zq_lr_s1 {sz : Nat} {ad : Nat → Nat} {ls ls' : Array Slot} {nL : Nat} {lv lv' : List (Option Value)} {i : Nat} {v : Value} (h : zq_lr sz ad ls nL lv) (hs : zq_s1 lv i v = some lv')
    (h' : lv_has ls' nL ((i, zq_tr sz ad v) :: (zq_pr sz ad lv).filter (fun q => !(q.1 == i) && !(q.1 + 1 == i && q.2.category == 2)))) : zq_lr sz ad ls' nL lv' := by
  unfold zq_s1 at hs
  split at hs
  next hi =>
    cases hs
    refine ⟨⟨h'.1, h'.2.1, fun q hq => ?_⟩, by rw [List.length_set, zq_clr_len]; exact h.2⟩
    obtain ⟨j, w⟩ := q
    obtain ⟨u, hu, rfl⟩ := zq_pr_mem.mp hq
    rw [zq_ld_set (by rw [zq_clr_len]; exact hi)] at hu
    by_cases hij : i = j
    · subst hij
      rw [if_pos rfl] at hu
      cases hu
      exact h'.2.2 _ List.mem_cons_self
    · rw [if_neg hij] at hu
      obtain ⟨h1, h2⟩ := zq_clr_ld hu
      refine h'.2.2 (j, zq_tr sz ad u) (List.mem_cons_of_mem _ (List.mem_filter.mpr ⟨zq_pr_mem.mpr ⟨u, h1, rfl⟩, ?_⟩))
      simp only [Bool.and_eq_true, Bool.not_eq_true', beq_eq_false_iff_ne, ne_eq]
      refine ⟨fun e => hij e.symm, ?_⟩
      rw [Bool.and_eq_false_iff]
      by_cases hji : j + 1 = i
      · right
        rw [beq_eq_false_iff_ne]
        intro hc
        rw [zq_tr_cat] at hc
        obtain ⟨w, hw⟩ := h2 hji hc
        subst hji
        exact zq_lr_half h h1 hc hw
      · left
        rw [beq_eq_false_iff_ne]
        exact hji
  next => cases hs
theorem zq_lr_s2 {sz : Nat} {ad : Nat → Nat} {ls ls' : Array Slot} {nL : Nat} {lv lv' : List (Option Value)} {i : Nat} {v : Value} (h : zq_lr sz ad ls nL lv) (hs : zq_s2 lv i v = some lv')
    (h' : lv_has ls' nL ((i, zq_tr sz ad v) :: (zq_pr sz ad lv).filter (fun q => !(q.1 == i) && (!(q.1 == i + 1) && !(q.1 + 1 == i && q.2.category == 2))))) : zq_lr sz ad ls' nL lv' := by
  unfold zq_s2 at hs
  split at hs
  next hi =>
    cases hs
    refine ⟨⟨h'.1, h'.2.1, fun q hq => ?_⟩, by rw [List.length_set, List.length_set, zq_clr_len]; exact h.2⟩
    obtain ⟨j, w⟩ := q
    obtain ⟨u, hu, rfl⟩ := zq_pr_mem.mp hq
    rw [zq_ld_set (by rw [List.length_set, zq_clr_len]; exact hi)] at hu
    by_cases hij2 : i + 1 = j
    · rw [if_pos hij2] at hu; cases hu
    rw [if_neg hij2, zq_ld_set (by rw [zq_clr_len]; omega)] at hu
    by_cases hij : i = j
    · subst hij
      rw [if_pos rfl] at hu
      cases hu
      exact h'.2.2 _ List.mem_cons_self
    · rw [if_neg hij] at hu
      obtain ⟨h1, h2⟩ := zq_clr_ld hu
      refine h'.2.2 (j, zq_tr sz ad u) (List.mem_cons_of_mem _ (List.mem_filter.mpr ⟨zq_pr_mem.mpr ⟨u, h1, rfl⟩, ?_⟩))
      simp only [Bool.and_eq_true, Bool.not_eq_true', beq_eq_false_iff_ne, ne_eq]
      refine ⟨fun e => hij e.symm, fun e => hij2 e.symm, ?_⟩
      rw [Bool.and_eq_false_iff]
      by_cases hji : j + 1 = i
      · right
        rw [beq_eq_false_iff_ne]
        intro hc
        rw [zq_tr_cat] at hc
        obtain ⟨w, hw⟩ := h2 hji hc
        subst hji
        exact zq_lr_half h h1 hc hw
      · left
        rw [beq_eq_false_iff_ne]
        exact hji
  next => cases hs
theorem zq_s1_lt {lv lv' : List (Option Value)} {i : Nat} {v : Value} (hs : zq_s1 lv i v = some lv') : i < lv.length := by
  unfold zq_s1 at hs
  split at hs
  · assumption
  · cases hs
theorem zq_s2_lt {lv lv' : List (Option Value)} {i : Nat} {v : Value} (hs : zq_s2 lv i v = some lv') : i + 1 < lv.length := by
  unfold zq_s2 at hs
  split at hs
  · assumption
  · cases hs
theorem zq_sls_len (sz : Nat) (ad : Nat → Nat) (as : List Value) : (lg_sl (as.map (zq_tr sz ad))).length = (zq_sls as).length := by
  induction as with
  | nil => rfl
  | cons a r ih =>
    have e1 : ∀ (v : Value) (vs : List Value), lg_sl (v :: vs) = (if v.category = 2 then [Slot.val v, .second] else [Slot.val v]) ++ lg_sl vs := fun v vs => List.flatMap_cons
    rw [List.map_cons, e1, List.length_append, ih, zq_tr_cat]
    cases a with
    | long x => show 2 + (zq_sls r).length = (zq_sls r).length + 1 + 1; omega
    | double x => show 2 + (zq_sls r).length = (zq_sls r).length + 1 + 1; omega
    | int x => show 1 + (zq_sls r).length = (zq_sls r).length + 1; omega
    | float x => show 1 + (zq_sls r).length = (zq_sls r).length + 1; omega
    | null => show 1 + (zq_sls r).length = (zq_sls r).length + 1; omega
    | ref x => show 1 + (zq_sls r).length = (zq_sls r).length + 1; omega
    | retAddr x => show 1 + (zq_sls r).length = (zq_sls r).length + 1; omega
theorem zq_sls_ld (sz : Nat) (ad : Nat → Nat) (pad : Nat) (as : List Value) : ∀ (off i : Nat) (v : Value), zq_ld (zq_sls as ++ List.replicate pad none) i = some v → (off + i, zq_tr sz ad v) ∈ lv_args off (as.map (zq_tr sz ad)) := by
  induction as with
  | nil =>
    intro off i v h
    have h1 := zq_ld_lt h
    simp [zq_sls, List.getElem?_replicate] at h1
  | cons a r ih =>
    have one : a.category = 1 → zq_sls (a :: r) = some a :: zq_sls r → ∀ (off i : Nat) (v : Value), zq_ld (zq_sls (a :: r) ++ List.replicate pad none) i = some v → (off + i, zq_tr sz ad v) ∈ lv_args off ((a :: r).map (zq_tr sz ad)) := by
      intro hc he off i v h
      have h1 := zq_ld_lt h
      rw [he] at h1
      show (off + i, zq_tr sz ad v) ∈ (off, zq_tr sz ad a) :: lv_args (if (zq_tr sz ad a).category = 2 then off + 2 else off + 1) (r.map (zq_tr sz ad))
      rw [zq_tr_cat, hc, if_neg (by decide)]
      cases i with
      | zero =>
        simp at h1
        subst h1
        exact List.mem_cons_self
      | succ j =>
        have h2 : zq_ld (zq_sls r ++ List.replicate pad none) j = some v := by
          unfold zq_ld
          rw [List.cons_append, List.getElem?_cons_succ] at h1
          rw [h1]
        have h3 := ih (off + 1) j v h2
        rw [show off + (j + 1) = off + 1 + j by omega]
        exact List.mem_cons_of_mem _ h3
    have two : a.category = 2 → zq_sls (a :: r) = some a :: none :: zq_sls r → ∀ (off i : Nat) (v : Value), zq_ld (zq_sls (a :: r) ++ List.replicate pad none) i = some v → (off + i, zq_tr sz ad v) ∈ lv_args off ((a :: r).map (zq_tr sz ad)) := by
      intro hc he off i v h
      have h1 := zq_ld_lt h
      rw [he] at h1
      show (off + i, zq_tr sz ad v) ∈ (off, zq_tr sz ad a) :: lv_args (if (zq_tr sz ad a).category = 2 then off + 2 else off + 1) (r.map (zq_tr sz ad))
      rw [zq_tr_cat, hc, if_pos rfl]
      match i, h1 with
      | 0, h1 =>
        simp at h1
        subst h1
        exact List.mem_cons_self
      | 1, h1 => simp at h1
      | j + 2, h1 =>
        have h2 : zq_ld (zq_sls r ++ List.replicate pad none) j = some v := by
          unfold zq_ld
          rw [List.cons_append, List.getElem?_cons_succ, List.cons_append, List.getElem?_cons_succ] at h1
          rw [h1]
        have h3 := ih (off + 2) j v h2
        rw [show off + (j + 2) = off + 2 + j by omega]
        exact List.mem_cons_of_mem _ h3
    cases a with
    | int x => exact one rfl rfl
    | long x => exact two rfl rfl
    | float x => exact one rfl rfl
    | double x => exact two rfl rfl
    | null => exact one rfl rfl
    | ref x => exact one rfl rfl
    | retAddr x => exact one rfl rfl
theorem zq_lr_ent (sz : Nat) (ad : Nat → Nat) (as : List Value) (maxL : Nat) (h : (zq_sls as).length ≤ maxL) : (lg_sl (as.map (zq_tr sz ad))).length ≤ maxL ∧ zq_lr sz ad ((lg_sl (as.map (zq_tr sz ad)) ++ List.replicate (maxL - (lg_sl (as.map (zq_tr sz ad))).length) Slot.unset).toArray) maxL (zq_ent maxL as) := by
  have h0 : (lg_sl (as.map (zq_tr sz ad))).length ≤ maxL := by rw [zq_sls_len]; exact h
  refine ⟨h0, ?_, ?_⟩
  · have h1 := lv_entry (as.map (zq_tr sz ad)) h0
    refine ⟨h1.1, h1.2.1, fun q hq => ?_⟩
    obtain ⟨i, w⟩ := q
    obtain ⟨v, hv, rfl⟩ := zq_pr_mem.mp hq
    have h2 := zq_sls_ld sz ad _ as 0 i v hv
    rw [Nat.zero_add] at h2
    exact h1.2.2 _ h2
  · unfold zq_ent
    rw [List.length_append, List.length_replicate]
    omega
theorem zq_icof (n : Int) : Int32.ofInt n = zq_ic n := by
  unfold zq_ic
  split
  · rfl
  · rename_i k
    rw [Int.negSucc_eq, Int32.ofInt_neg]
    rfl
theorem zq_ic8 {n : Int} (h : zq_r8 n = true) : (Int8.ofInt n).toInt32 = zq_ic n := by
  have hb : -128 ≤ n ∧ n < 128 := by
    unfold zq_r8 at h
    split at h
    · have := Nat.le_of_ble_eq_true h; rename_i k; simp only [Int.ofNat_eq_natCast]; omega
    · have := Nat.le_of_ble_eq_true h; rename_i k; omega
  rw [← zq_icof]
  apply Int32.toInt_inj.mp
  rw [Int8.toInt_toInt32, Int8.toInt_ofInt_of_le (by omega) (by omega), Int32.toInt_ofInt_of_le (by omega) (by omega)]
theorem zq_ic16 {n : Int} (h : zq_r16 n = true) : (Int16.ofInt n).toInt32 = zq_ic n := by
  have hb : -32768 ≤ n ∧ n < 32768 := by
    unfold zq_r16 at h
    split at h
    · have := Nat.le_of_ble_eq_true h; rename_i k; simp only [Int.ofNat_eq_natCast]; omega
    · have := Nat.le_of_ble_eq_true h; rename_i k; omega
  rw [← zq_icof]
  apply Int32.toInt_inj.mp
  rw [Int16.toInt_toInt32, Int16.toInt_ofInt_of_le (by omega) (by omega), Int32.toInt_ofInt_of_le (by omega) (by omega)]
