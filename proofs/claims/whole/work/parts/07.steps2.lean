/-! further steps: branches, fields, arrays, what is made -/
theorem zq_cl_get {ci : Nat} (h : ci < 11) : zq_cl[ci]? = some (zq_R ci, zq_Tf ci, zq_N ci) := by
  unfold zq_cl
  rw [List.getElem?_map, List.getElem?_range h]
  rfl
theorem zq_adr_inj {dC : Nat → ClassId} {dI : Nat → Nat → Nat} {cA : Nat → ClassId} {sz : Nat} {ad : Nat → Nat} {sc : zX} {U : State} {H : Heap} (h : zq_env dC dI cA sz ad sc U H) {i j : Nat} (hi : i < 38 ∨ 64 ≤ i) (hj : j < 38 ∨ 64 ≤ j) (he : zq_adr sz ad i = zq_adr sz ad j) : i = j := by
  obtain ⟨-, -, -, -, -, -, -, -, -, -, -, h15, h16, -⟩ := h
  unfold zq_adr at he
  rcases hi with hi | hi <;> rcases hj with hj | hj
  · rw [if_pos (by omega), if_pos (by omega)] at he
    exact h15 i j hi hj he
  · rw [if_pos (by omega), if_neg (by omega)] at he
    have := h16 i hi
    omega
  · rw [if_neg (by omega), if_pos (by omega)] at he
    have := h16 j hj
    omega
  · rw [if_neg (by omega), if_neg (by omega)] at he
    omega
def zq_ro (v : Value) : Option Nat := match v with
  | .ref i => some i
  | _ => none
theorem zq_rok_rf {sz : Nat} {ad : Nat → Nat} {v : Value} (h : zq_rok v = true) : zq_tr sz ad v = va_rf ((zq_ro v).map (zq_adr sz ad)) ∧ v = va_rf (zq_ro v) ∧ ∀ i, zq_ro v = some i → i < 38 ∨ 64 ≤ i := by
  cases v with
  | null => exact ⟨rfl, rfl, fun i h => by cases h⟩
  | ref i => exact ⟨rfl, rfl, fun j hj => by cases hj; exact of_decide_eq_true h⟩
  | int x => cases h
  | long x => cases h
  | float x => cases h
  | double x => cases h
  | retAddr x => cases h
theorem zq_rok_eq {dC : Nat → ClassId} {dI : Nat → Nat → Nat} {cA : Nat → ClassId} {sz : Nat} {ad : Nat → Nat} {sc : zX} {U : State} {H : Heap} (henv : zq_env dC dI cA sz ad sc U H) {x y : Value} (hx : zq_rok x = true) (hy : zq_rok y = true) : ((zq_ro x).map (zq_adr sz ad) = (zq_ro y).map (zq_adr sz ad)) ↔ x = y := by
  obtain ⟨-, h1, h2⟩ := zq_rok_rf (sz := sz) (ad := ad) hx
  obtain ⟨-, h3, h4⟩ := zq_rok_rf (sz := sz) (ad := ad) hy
  constructor
  · intro h
    rw [h1, h3]
    cases ha : zq_ro x with
    | none =>
      cases hb : zq_ro y with
      | none => rfl
      | some j => rw [ha, hb] at h; cases h
    | some i =>
      cases hb : zq_ro y with
      | none => rw [ha, hb] at h; cases h
      | some j =>
        rw [ha, hb] at h
        rw [zq_adr_inj henv (h2 i ha) (h4 j hb) (Option.some.inj h)]
  · intro h
    rw [h]
section ZG
variable {dC : Nat → ClassId} {dI : Nat → Nat → Nat} {cA : Nat → ClassId} {sz : Nat} {ad : Nat → Nat} {sc : zX}
variable {p : Program} {l : Launch} {e : Env} {R : Room} {s : State} {m : MethodId} {args : Array Value} {below : List Frame} {meth : Method} {c : Code} {H : Heap} {locs : List Loc} {cells slots : Nat} {Q : State → Prop}
variable {cc : ByteArray} {ls : Array Slot} {nL pc o len : Nat} {ini : Bool} {ins : Instr} {lv : List (Option Value)} {st : List Value} {h : zH} {c' : zC}
theorem zq_g5_ok (cx : zq_cx dC dI cA sz ad sc p s m args meth c cc nL o ini) (hd : decode cc pc = .ok (ins, len)) (hn : zq_lnk ins len = true) (hg : zq_g5 ins pc lv st h = some c')
    (kk : c'.2.1 = lv → c'.2.2.2 = h → W p l e R s m args below meth c H locs cells slots Q (F0 m c'.1 ls (c'.2.2.1.map (zq_tr sz ad)))) : W p l e R s m args below meth c H locs cells slots Q (F0 m pc ls (st.map (zq_tr sz ad))) := by
  obtain ⟨hx, hb, hml, hown, hts, henv, hin, ho⟩ := cx
  unfold zq_g5 at hg
  split at hg
  · split at hg
    · cases hg; exact lv_i2l hx hb (zq_dl hd hn rfl) rfl (kk rfl rfl)
    · cases hg
  · split at hg
    · cases hg; exact lv_l2i hx hb (zq_dl hd hn rfl) rfl (kk rfl rfl)
    · cases hg
  · split at hg
    · cases hg; exact lv_i2c hx hb (zq_dl hd hn rfl) rfl (kk rfl rfl)
    · cases hg
  · split at hg
    · cases hg; exact lv_iushr hx hb (zq_dl hd hn rfl) rfl (kk rfl rfl)
    · cases hg
  · split at hg
    · cases hg; exact lv_dup hx hb (zq_dl hd hn rfl) rfl (kk rfl rfl)
    · cases hg; exact lv_dup hx hb (zq_dl hd hn rfl) rfl (kk rfl rfl)
    · cases hg
  · split at hg
    · cases hg; exact lv_dup2_11 hx hb (zq_dl hd hn rfl) rfl rfl (kk rfl rfl)
    · cases hg
  · obtain ⟨t, ht, rfl⟩ := Option.map_eq_some_iff.mp hg
    exact lv_goto hx hb (zq_dl hd hn rfl) (zq_tgt ht) (kk rfl rfl)
  · split at hg
    · obtain ⟨t, ht, rfl⟩ := Option.map_eq_some_iff.mp hg
      exact lv_ifnullN hx hb (zq_dl hd hn rfl) (zq_tgt ht) (kk rfl rfl)
    · cases hg; exact lv_ifnull hx hb (zq_dl hd hn rfl) (kk rfl rfl)
    · cases hg
  · split at hg
    next y x r =>
      split at hg
      next hr =>
        obtain ⟨t, ht, rfl⟩ := Option.map_eq_some_iff.mp hg
        have k := kk rfl rfl
        show W p l e R s m args below meth c H locs cells slots Q (F0 m pc ls (zq_tr sz ad y :: zq_tr sz ad x :: r.map (zq_tr sz ad)))
        rw [(zq_rok_rf hr.1).1, (zq_rok_rf hr.2).1]
        refine lv_acmp_eq hx hb (zq_dl hd hn rfl) (zq_tgt ht) (fun he => ?_) (fun he => ?_)
        · have hxy := (zq_rok_eq henv hr.1 hr.2).mp he
          dsimp only at k
          rw [if_pos hxy] at k
          exact k
        · have hxy : ¬ x = y := fun q => he ((zq_rok_eq henv hr.1 hr.2).mpr q)
          dsimp only at k
          rw [if_neg hxy] at k
          exact k
      next => cases hg
    next => cases hg
  · split at hg
    next y x r =>
      split at hg
      next hr =>
        obtain ⟨t, ht, rfl⟩ := Option.map_eq_some_iff.mp hg
        have k := kk rfl rfl
        show W p l e R s m args below meth c H locs cells slots Q (F0 m pc ls (zq_tr sz ad y :: zq_tr sz ad x :: r.map (zq_tr sz ad)))
        rw [(zq_rok_rf hr.1).1, (zq_rok_rf hr.2).1]
        refine lv_acmp_ne hx hb (zq_dl hd hn rfl) (zq_tgt ht) (fun he => ?_) (fun he => ?_)
        · have hxy : ¬ x = y := fun q => he ((zq_rok_eq henv hr.1 hr.2).mpr q)
          dsimp only at k
          rw [if_neg hxy] at k
          exact k
        · have hxy := (zq_rok_eq henv hr.1 hr.2).mp he
          dsimp only at k
          rw [if_pos hxy] at k
          exact k
      next => cases hg
    next => cases hg
  · cases hg
theorem zq_ifp {α : Sort _} {P : α → Prop} {c : Prop} [Decidable c] {a b : α} (h : P (if c then a else b)) : (c → P a) ∧ (¬ c → P b) := by
  by_cases hc : c
  · rw [if_pos hc] at h; exact ⟨fun _ => h, fun n => absurd hc n⟩
  · rw [if_neg hc] at h; exact ⟨fun y => absurd y hc, fun _ => h⟩
theorem zq_g6_ok (cx : zq_cx dC dI cA sz ad sc p s m args meth c cc nL o ini) (hd : decode cc pc = .ok (ins, len)) (hn : zq_lnk ins len = true) (hg : zq_g6 ins pc lv st h = some c')
    (kk : c'.2.1 = lv → c'.2.2.2 = h → W p l e R s m args below meth c H locs cells slots Q (F0 m c'.1 ls (c'.2.2.1.map (zq_tr sz ad)))) : W p l e R s m args below meth c H locs cells slots Q (F0 m pc ls (st.map (zq_tr sz ad))) := by
  obtain ⟨hx, hb, hml, hown, hts, henv, hin, ho⟩ := cx
  unfold zq_g6 at hg
  split at hg
  · split at hg
    · obtain ⟨t, ht, rfl⟩ := Option.map_eq_some_iff.mp hg
      have k := zq_ifp (P := fun q => W p l e R s m args below meth c H locs cells slots Q (F0 m q ls _)) (kk rfl rfl)
      exact lv_if_eq hx hb (zq_dl hd hn rfl) (zq_tgt ht) k.1 k.2
    · cases hg
  · split at hg
    · obtain ⟨t, ht, rfl⟩ := Option.map_eq_some_iff.mp hg
      have k := zq_ifp (P := fun q => W p l e R s m args below meth c H locs cells slots Q (F0 m q ls _)) (kk rfl rfl)
      exact lv_if_ne hx hb (zq_dl hd hn rfl) (zq_tgt ht) k.2 k.1
    · cases hg
  · split at hg
    · obtain ⟨t, ht, rfl⟩ := Option.map_eq_some_iff.mp hg
      have k := zq_ifp (P := fun q => W p l e R s m args below meth c H locs cells slots Q (F0 m q ls _)) (kk rfl rfl)
      exact lv_if_lt hx hb (zq_dl hd hn rfl) (zq_tgt ht) k.1 k.2
    · cases hg
  · split at hg
    · obtain ⟨t, ht, rfl⟩ := Option.map_eq_some_iff.mp hg
      have k := zq_ifp (P := fun q => W p l e R s m args below meth c H locs cells slots Q (F0 m q ls _)) (kk rfl rfl)
      exact lv_if_ge hx hb (zq_dl hd hn rfl) (zq_tgt ht) k.1 k.2
    · cases hg
  · split at hg
    · obtain ⟨t, ht, rfl⟩ := Option.map_eq_some_iff.mp hg
      have k := zq_ifp (P := fun q => W p l e R s m args below meth c H locs cells slots Q (F0 m q ls _)) (kk rfl rfl)
      exact lv_if_gt hx hb (zq_dl hd hn rfl) (zq_tgt ht) k.1 k.2
    · cases hg
  · split at hg
    · obtain ⟨t, ht, rfl⟩ := Option.map_eq_some_iff.mp hg
      have k := zq_ifp (P := fun q => W p l e R s m args below meth c H locs cells slots Q (F0 m q ls _)) (kk rfl rfl)
      exact lv_if_le hx hb (zq_dl hd hn rfl) (zq_tgt ht) k.1 k.2
    · cases hg
  · split at hg
    · obtain ⟨t, ht, rfl⟩ := Option.map_eq_some_iff.mp hg
      have k := zq_ifp (P := fun q => W p l e R s m args below meth c H locs cells slots Q (F0 m q ls _)) (kk rfl rfl)
      exact lv_icmp_eq hx hb (zq_dl hd hn rfl) (zq_tgt ht) k.1 k.2
    · cases hg
  · split at hg
    · obtain ⟨t, ht, rfl⟩ := Option.map_eq_some_iff.mp hg
      have k := zq_ifp (P := fun q => W p l e R s m args below meth c H locs cells slots Q (F0 m q ls _)) (kk rfl rfl)
      exact lv_icmp_ne hx hb (zq_dl hd hn rfl) (zq_tgt ht) k.2 k.1
    · cases hg
  · split at hg
    · obtain ⟨t, ht, rfl⟩ := Option.map_eq_some_iff.mp hg
      have k := zq_ifp (P := fun q => W p l e R s m args below meth c H locs cells slots Q (F0 m q ls _)) (kk rfl rfl)
      exact lv_icmp_lt hx hb (zq_dl hd hn rfl) (zq_tgt ht) k.1 k.2
    · cases hg
  · split at hg
    · obtain ⟨t, ht, rfl⟩ := Option.map_eq_some_iff.mp hg
      have k := zq_ifp (P := fun q => W p l e R s m args below meth c H locs cells slots Q (F0 m q ls _)) (kk rfl rfl)
      exact lv_icmp_ge hx hb (zq_dl hd hn rfl) (zq_tgt ht) k.1 k.2
    · cases hg
  · split at hg
    · obtain ⟨t, ht, rfl⟩ := Option.map_eq_some_iff.mp hg
      have k := zq_ifp (P := fun q => W p l e R s m args below meth c H locs cells slots Q (F0 m q ls _)) (kk rfl rfl)
      exact lv_icmp_gt hx hb (zq_dl hd hn rfl) (zq_tgt ht) k.1 k.2
    · cases hg
  · split at hg
    · obtain ⟨t, ht, rfl⟩ := Option.map_eq_some_iff.mp hg
      have k := zq_ifp (P := fun q => W p l e R s m args below meth c H locs cells slots Q (F0 m q ls _)) (kk rfl rfl)
      exact lv_icmp_le hx hb (zq_dl hd hn rfl) (zq_tgt ht) k.1 k.2
    · cases hg
  · split at hg
    · split at hg
      next hout =>
        obtain ⟨t, ht, rfl⟩ := Option.map_eq_some_iff.mp hg
        exact lv_tableOut hx hb hd hout (zq_tgt ht) (kk rfl rfl)
      next hout =>
        split at hg
        next off hoff =>
          obtain ⟨t, ht, rfl⟩ := Option.map_eq_some_iff.mp hg
          exact lv_tableIn hx hb hd (fun q => hout (Or.inl q)) (fun q => hout (Or.inr q)) hoff (zq_tgt ht) (kk rfl rfl)
        next => cases hg
    · cases hg
  · cases hg
theorem zq_fs_get {ci k : Nat} (hk : k < zq_N ci) (f : Nat → Value) : ((List.range (zq_N ci)).map f)[k]? = some (f k) := by
  rw [List.getElem?_map, List.getElem?_range hk]
  rfl
theorem zq_fs_set {ci k : Nat} (hk : k < zq_N ci) (f f' : Nat → Value) (h : ∀ i, i ≠ k → f' i = f i) : (List.range (zq_N ci)).map f' = ((List.range (zq_N ci)).map f).set k (f' k) := by
  apply List.ext_getElem?
  intro i
  rw [List.getElem?_set]
  by_cases hik : k = i
  · subst hik
    rw [if_pos rfl, if_pos (by simpa using hk), zq_fs_get hk]
  · rw [if_neg hik]
    by_cases hi : i < zq_N ci
    · rw [zq_fs_get hi, zq_fs_get hi, h i (fun e => hik e.symm)]
    · rw [List.getElem?_eq_none (by simpa using hi), List.getElem?_eq_none (by simpa using hi)]
end ZG
