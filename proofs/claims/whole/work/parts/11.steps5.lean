/-! what is made; the three methods that are one step -/
def zq_ks (kd : zK) : Nat := match kd.1 with
  | 0 => zq_N kd.2
  | _ => kd.2
def zq_ns (h : zH) : Nat := (h.1.map zq_ks).sum
theorem zq_ns_mk (h : zH) (kd : zK) : zq_ns (zq_mk h kd) = zq_ns h + zq_ks kd := by
  unfold zq_ns zq_mk
  rw [List.map_append, List.sum_append]
  simp
theorem zq_len_mk (h : zH) (kd : zK) : (zq_mk h kd).1.length = h.1.length + 1 := by
  unfold zq_mk
  simp
theorem zq_cat_tr (sz : Nat) (ad : Nat → Nat) (st : List Value) : ((st.map (zq_tr sz ad)).map fun v => v.category).sum = zq_cat st := by
  unfold zq_cat
  rw [List.map_map]
  congr 1
  apply List.map_congr_left
  intro v _
  exact zq_tr_cat sz ad v
theorem zq_dflt : ∀ ci, ci < 11 → ∀ k, k < zq_N ci → defaultValue (zq_ty ci k) = (match zq_tag (zq_ty ci k) with | 0 => Value.int 0 | 1 => Value.long 0 | _ => Value.null) := by decide +kernel
theorem zq_arrc : zq_has (76 + 113) (.arrayClass .char) = true ∧ zq_has (112 + 113) (.arrayClass .int) = true ∧ zq_has (254 + 113) (.arrayClass .long) = true ∧ zq_has (1322 + 113) (.arrayClass .boolean) = true := by decide +kernel
theorem zq_arrin : (Cond.arrayClass .char) ∈ zq_WG ∧ (Cond.arrayClass .int) ∈ zq_WG ∧ (Cond.arrayClass .long) ∈ zq_WG ∧ (Cond.arrayClass .boolean) ∈ zq_WG := ⟨zq_in zq_arrc.1, zq_in zq_arrc.2.1, zq_in zq_arrc.2.2.1, zq_in zq_arrc.2.2.2⟩
theorem zq_mathc : zq_has 753 (.code Lib.Math.max.name Lib.Math.max.code 2 (some .int)) = true ∧ zq_has 750 (.code Lib.Math.min.name Lib.Math.min.code 2 (some .int)) = true ∧ zq_has 752 (.static Lib.Math.max.name) = true ∧ zq_has 749 (.static Lib.Math.min.name) = true ∧ zq_has 127 (.initialized "java/lang/Math") = true ∧ zq_has 140 (.code Lib.objectInit ⟨#[0xb1]⟩ 1 none) = true ∧ zq_has 139 (.instanceMethod Lib.objectInit) = true := by decide +kernel
section ZG
variable {dC : Nat → ClassId} {dI : Nat → Nat → Nat} {cA : Nat → ClassId} {sz : Nat} {ad : Nat → Nat} {sc : zX}
variable {p : Program} {l : Launch} {e : Env} {R : Room} {s : State} {m : MethodId} {args : Array Value} {below : List Frame} {meth : Method} {c : Code} {H : Heap} {locs : List Loc} {cells slots : Nat} {Q : State → Prop}
variable {cc : ByteArray} {ls : Array Slot} {nL pc o len : Nat} {ini : Bool} {ins : Instr} {lv : List (Option Value)} {st : List Value} {h : zH} {c' : zC}
theorem zq_sizeW {g : JFrame} (kk : H.size ≤ s.heap.size + cells → W p l e R s m args below meth c H locs cells slots Q g) : W p l e R s m args below meth c H locs cells slots Q g := fun T hT X => kk (by
  have h1 := X.same.2.2.1
  have h2 : T.heap.size ≤ s.heap.size + cells := h1
  rw [hT] at h2
  exact h2) T hT X
/-- where the new cell lies -/
theorem zq_where {a : Nat} {e0 : va_E} {H1 : Heap} {kd : zK} (hP : va_P (dC, dI) zq_cl (zq_ws cA sz ad h ++ [(a, e0)]) H1) (hD : va_D (fun q => sz ≤ q) (zq_ws cA sz ad h ++ [(a, e0)])) (hz : H1.size ≤ sz + h.1.length + 1) : a = sz + h.1.length := by
  have hlen : (zq_ws cA sz ad h).length = h.1.length := by unfold zq_ws; rw [List.length_mapIdx]
  have hlast : (zq_ws cA sz ad h ++ [(a, e0)])[h.1.length]? = some (a, e0) := by
    rw [List.getElem?_append_right (by omega), hlen]
    simp
  have h1 : a < H1.size := (hP _ _ hlast).lt
  have h2 : sz ≤ a := hD.2 _ _ hlast
  by_cases h3 : a < sz + h.1.length
  · exfalso
    have h4 : a - sz < h.1.length := by omega
    have h5 : (zq_ws cA sz ad h)[a - sz]? = some (sz + (a - sz), zq_ce cA sz ad (h.1[a - sz]) h.2 (64 + (a - sz))) := zq_ws_get (List.getElem?_eq_getElem h4)
    have h6 : (zq_ws cA sz ad h ++ [(a, e0)])[a - sz]? = some (sz + (a - sz), zq_ce cA sz ad (h.1[a - sz]) h.2 (64 + (a - sz))) := by
      rw [List.getElem?_append_left (by omega)]
      exact h5
    have h7 := hD.1 _ _ _ _ h6 hlast (by show sz + (a - sz) = a; omega)
    omega
  · omega
theorem zq_g9_ok {al : Bool} (cx : zq_cx dC dI cA sz ad sc p s m args meth c cc nL o ini) (hd : decode cc pc = .ok (ins, len)) (hn : zq_lnk ins len = true) (hg : zq_g9 al o ins pc lv st h = some c') (hP : va_P (dC, dI) zq_cl (zq_ws cA sz ad h) H) (hS : va_S (fun q => sz ≤ q) s.heap H locs)
    (hacc : al = true → s.heap.size + cells = sz + h.1.length) (hrc : cells + (c'.2.2.2.1.length - h.1.length) ≤ R.cells) (hrs : slots + (zq_ns c'.2.2.2 - zq_ns h) ≤ R.slots)
    (kk : ∀ H' locs', c'.2.1 = lv → va_P (dC, dI) zq_cl (zq_ws cA sz ad c'.2.2.2) H' → va_S (fun q => sz ≤ q) s.heap H' locs' → W p l e R s m args below meth c H' locs' (cells + (c'.2.2.2.1.length - h.1.length)) (slots + (zq_ns c'.2.2.2 - zq_ns h)) Q (F0 m c'.1 ls (c'.2.2.1.map (zq_tr sz ad)))) : W p l e R s m args below meth c H locs cells slots Q (F0 m pc ls (st.map (zq_tr sz ad))) := by
  obtain ⟨hx, hb, hml, hown, hts, henv, hin, ho⟩ := cx
  obtain ⟨hK, hNm, hNf, ⟨hAO1, hAO2⟩, -, -, -, -, -, -, -, -, hadlt, hszH⟩ := id henv
  obtain ⟨t1, t2, t3, t4, t5, t6⟩ := zq_tysx cA
  obtain ⟨w1, w2, w3, w4⟩ := zq_arrin
  have hA : ∀ q : Nat, s.heap.size ≤ q → (fun q => sz ≤ q) q := fun q h => Nat.le_trans hszH h
  unfold zq_g9 at hg
  split at hg
  · split at hg
    next hal =>
      have hacc' := hacc hal
      split at hg
      next e1 he =>
        obtain ⟨ci, p1, p2, p3⟩ := e1
        cases hg
        have hpk := zq_npk o ho _ (zq_lk he)
        simp only [Bool.and_eq_true, decide_eq_true_eq] at hpk
        obtain ⟨⟨⟨hci, hcl⟩, hinst⟩, hini⟩ := hpk
        dsimp only at kk hrc hrs
        rw [zq_len_mk] at kk hrc
        rw [zq_ns_mk] at kk hrs
        have e1 : h.1.length + 1 - h.1.length = 1 := by omega
        have e2 : zq_ns h + zq_ks (0, ci) - zq_ns h = zq_N ci := by
          show zq_ns h + zq_N ci - zq_ns h = zq_N ci
          omega
        rw [e1] at kk hrc
        rw [e2] at kk hrs
        have hdl : decode cc pc = .ok (.new _, 3) := zq_dl hd hn rfl
        refine va_new (D := (dC, dI)) (ci := ci) (fs := (List.range (zq_N ci)).map (fun k => zq_tr sz ad (zq_fv (zq_tag (zq_ty ci k)) (zq_z0 h.2 (64 + h.1.length)) (64 + h.1.length) k))) hx hb hts (zq_lay hci) (zq_ty ci) (zq_tyok ci hci) hown (hts _ (zq_in hcl)) (hts _ (zq_in hinst)) (hts _ (zq_in hini)) hK hP (zq_D cA sz ad h) hS hA (zq_cl_get hci) (fun j hj => ?_) hrc hrs hdl (fun q H1 hP1 hD1 hS1 => ?_)
        · rw [zq_dflt ci hci j hj]
          unfold vp_V
          rw [List.getD_eq_getElem?_getD, zq_fs_get hj]
          show _ = zq_tr sz ad (zq_fv (zq_tag (zq_ty ci j)) (zq_z0 h.2 (64 + h.1.length)) (64 + h.1.length) j)
          unfold zq_fv
          split
          · next h0 => rw [h0]; simp [zq_z0, zq_tr]
          · next h0 => rw [h0]; simp [zq_z0, zq_tr]
          · next h0 h00 =>
            have h000 : zq_tag (zq_ty ci j) = 2 := by
              have key : ∀ ty : FieldType, zq_tag ty = 0 ∨ zq_tag ty = 1 ∨ zq_tag ty = 2 := by intro ty; cases ty <;> simp [zq_tag]
              rcases key (zq_ty ci j) with q | q | q
              · exact absurd q h0
              · exact absurd q h00
              · exact q
            rw [h000]
            simp [zq_z0, zq_tr, va_rf]
        · refine zq_sizeW (fun hz => ?_)
          have hq := zq_where (kd := (0, ci)) hP1 hD1 (by omega)
          subst hq
          have k1 := kk H1 locs rfl (by rw [zq_ws_app]; exact hP1) hS1
          have k2 : W p l e R s m args below meth c H1 locs (cells + 1) (slots + zq_N ci) Q (F0 m (pc + 3) ls (.ref (zq_adr sz ad (64 + h.1.length)) :: st.map (zq_tr sz ad))) := k1
          rw [zq_adr_new] at k2
          exact k2
      next => cases hg
    next => cases hg
  · split at hg
    next hal =>
      have hacc' := hacc hal
      split at hg
      next t n r ht =>
        split at hg
        next => cases hg
        next hb1 =>
          cases hg
          have hn0 : ¬ n < 0 := fun q => hb1 (Or.inl q)
          have hn1 : n.toNatClampNeg ≤ 100000 := Nat.not_lt.mp fun q => hb1 (Or.inr q)
          dsimp only at kk hrc hrs
          rw [zq_len_mk] at kk hrc
          rw [zq_ns_mk] at kk hrs
          have e1 : h.1.length + 1 - h.1.length = 1 := by omega
          rw [e1] at kk hrc
          have fin : ∀ (t : Nat) (ty : FieldType) (a0 : vp_A) (t0 : Nat), zq_ks (t, n.toNatClampNeg) = n.toNatClampNeg → (zq_tys cA)[t0]? = some (cA t, ty) → (∀ cB : ClassId, va_RA s cB ty → va_RA s (cA t) ty → cB = cA t) → zq_ce cA sz ad (t, n.toNatClampNeg) (zq_z0 h.2 (64 + h.1.length)) (64 + h.1.length) = .inl (cA t, a0) →
              (∀ H' locs', lv = lv → va_P (dC, dI) zq_cl (zq_ws cA sz ad (zq_mk h (t, n.toNatClampNeg))) H' → va_S (fun q => sz ≤ q) s.heap H' locs' → W p l e R s m args below meth c H' locs' (cells + 1) (slots + (zq_ns h + zq_ks (t, n.toNatClampNeg) - zq_ns h)) Q (F0 m (pc + 2) ls ((.ref (64 + h.1.length) :: r).map (zq_tr sz ad)))) →
              ∀ (q : Nat) (cB : ClassId) (H1 : Heap), va_K (dC, dI) zq_cl (zq_tys cA ++ [(cB, ty)]) s → va_P (dC, dI) zq_cl (zq_ws cA sz ad h ++ [(q, .inl (cB, a0))]) H1 → va_D (fun q => sz ≤ q) (zq_ws cA sz ad h ++ [(q, .inl (cB, a0))]) → va_S (fun q => sz ≤ q) s.heap H1 locs →
                W p l e R s m args below meth c H1 locs (cells + 1) (slots + n.toNatClampNeg) Q (F0 m (pc + 2) ls (.ref q :: r.map (zq_tr sz ad))) := by
            intro t ty a0 t0 hks ht0 huniq hce kk q cB H1 hK1 hP1 hD1 hS1
            have hcB : cB = cA t := huniq cB ((hK1.2 6 (cB, ty) rfl).2) ((hK.2 t0 _ ht0).2)
            subst hcB
            refine zq_sizeW (fun hz => ?_)
            have hq := zq_where (kd := (0, 0)) hP1 hD1 (by omega)
            subst hq
            have k1 := kk H1 locs rfl (by rw [zq_ws_app, hce]; exact hP1) hS1
            have k2 : W p l e R s m args below meth c H1 locs (cells + 1) (slots + (zq_ns h + zq_ks (t, n.toNatClampNeg) - zq_ns h)) Q (F0 m (pc + 2) ls (.ref (zq_adr sz ad (64 + h.1.length)) :: r.map (zq_tr sz ad))) := k1
            rw [zq_adr_new, hks, show zq_ns h + n.toNatClampNeg - zq_ns h = n.toNatClampNeg by omega] at k2
            exact k2
          have hzI : (zq_z0 h.2 (64 + h.1.length)).1 (64 + h.1.length) = fun _ => 0 := funext fun b => if_pos rfl
          have hzL : (zq_z0 h.2 (64 + h.1.length)).2.1 (64 + h.1.length) = fun _ => 0 := funext fun b => if_pos rfl
          have hsl : slots + n.toNatClampNeg ≤ R.slots := by
            have hks : zq_ks (t, n.toNatClampNeg) = n.toNatClampNeg := by
              unfold zq_at at ht
              split at ht <;> cases ht <;> rfl
            rw [hks] at hrs
            omega
          unfold zq_at at ht
          split at ht
          · cases ht
            refine va_newa (D := (dC, dI)) (atype := .int) (ty := .int) (a0 := (n.toNatClampNeg, .inl (fun _ => 0))) hx hb (hts _ w2) rfl hK hP (zq_D cA sz ad h) hS hA (fun _ => rfl) hn0 rfl (by show n.toNatClampNeg * 4 ≤ _; omega) hrc hsl (zq_dl hd hn rfl) ?_
            exact fin 1 .int _ 0 rfl t1 (fun cB h1 h2 => Option.some.inj (h1.symm.trans h2)) (by show Sum.inl (cA 1, n.toNatClampNeg, Sum.inl ((zq_z0 h.2 (64 + h.1.length)).1 (64 + h.1.length))) = _; rw [hzI]) kk
          · cases ht
            refine va_newa (D := (dC, dI)) (atype := .long) (ty := .long) (a0 := (n.toNatClampNeg, .inr (.inl (fun _ => 0)))) hx hb (hts _ w3) rfl hK hP (zq_D cA sz ad h) hS hA (fun _ => rfl) hn0 rfl (by show n.toNatClampNeg * 8 ≤ _; omega) hrc hsl (zq_dl hd hn rfl) ?_
            exact fin 2 .long _ 1 rfl t2 (fun cB h1 h2 => Option.some.inj (h1.symm.trans h2)) (by show Sum.inl (cA 2, n.toNatClampNeg, Sum.inr (Sum.inl ((zq_z0 h.2 (64 + h.1.length)).2.1 (64 + h.1.length)))) = _; rw [hzL]) kk
          · cases ht
            refine va_newa (D := (dC, dI)) (atype := .char) (ty := .char) (a0 := (n.toNatClampNeg, .inl (fun _ => 0))) hx hb (hts _ w1) rfl hK hP (zq_D cA sz ad h) hS hA (fun _ => rfl) hn0 rfl (by show n.toNatClampNeg * 2 ≤ _; omega) hrc hsl (zq_dl hd hn rfl) ?_
            exact fin 3 .char _ 2 rfl t3 (fun cB h1 h2 => Option.some.inj (h1.symm.trans h2)) (by show Sum.inl (cA 3, n.toNatClampNeg, Sum.inl ((zq_z0 h.2 (64 + h.1.length)).1 (64 + h.1.length))) = _; rw [hzI]) kk
          · cases ht
            refine va_newa (D := (dC, dI)) (atype := .boolean) (ty := .boolean) (a0 := (n.toNatClampNeg, .inl (fun _ => 0))) hx hb (hts _ w4) rfl hK hP (zq_D cA sz ad h) hS hA (fun _ => rfl) hn0 rfl (by show n.toNatClampNeg * 1 ≤ _; omega) hrc hsl (zq_dl hd hn rfl) ?_
            exact fin 4 .boolean _ 3 rfl t4 (fun cB h1 h2 => Option.some.inj (h1.symm.trans h2)) (by show Sum.inl (cA 4, n.toNatClampNeg, Sum.inl ((zq_z0 h.2 (64 + h.1.length)).1 (64 + h.1.length))) = _; rw [hzI]) kk
          · cases ht
      next => cases hg
    next => cases hg
  · split at hg
    next hal =>
      have hacc' := hacc hal
      split at hg
      next e1 n r he =>
        obtain ⟨ci, p1, p2, p3⟩ := e1
        have hpk := zq_npk o ho _ (zq_lk he)
        simp only [Bool.and_eq_true, decide_eq_true_eq] at hpk
        obtain ⟨⟨⟨hci, hcl⟩, hinst⟩, hini⟩ := hpk
        split at hg
        next => cases hg
        next hb1 =>
          have hn0 : ¬ n < 0 := fun q => hb1 (Or.inl q)
          have hn1 : n.toNatClampNeg ≤ 100000 := Nat.not_lt.mp fun q => hb1 (Or.inr q)
          have e1 : h.1.length + 1 - h.1.length = 1 := by omega
          have fin : ∀ (t : Nat) (C : String) (t0 : Nat), zq_ks (t, n.toNatClampNeg) = n.toNatClampNeg → (zq_tys cA)[t0]? = some (cA t, .object C) → zq_ce cA sz ad (t, n.toNatClampNeg) (zq_z0 h.2 (64 + h.1.length)) (64 + h.1.length) = .inl (cA t, n.toNatClampNeg, .inr (.inr (.inr (.inr (fun _ => none))))) →
              (∀ H' locs', lv = lv → va_P (dC, dI) zq_cl (zq_ws cA sz ad (zq_mk h (t, n.toNatClampNeg))) H' → va_S (fun q => sz ≤ q) s.heap H' locs' → W p l e R s m args below meth c H' locs' (cells + 1) (slots + (zq_ns h + zq_ks (t, n.toNatClampNeg) - zq_ns h)) Q (F0 m (pc + 3) ls ((.ref (64 + h.1.length) :: r).map (zq_tr sz ad)))) →
              ∀ (q : Nat) (cB : ClassId) (H1 : Heap), va_K (dC, dI) zq_cl (zq_tys cA ++ [(cB, .object C)]) s → va_P (dC, dI) zq_cl (zq_ws cA sz ad h ++ [(q, .inl (cB, n.toNatClampNeg, .inr (.inr (.inr (.inr (fun _ => none))))))]) H1 → va_D (fun q => sz ≤ q) (zq_ws cA sz ad h ++ [(q, .inl (cB, n.toNatClampNeg, .inr (.inr (.inr (.inr (fun _ => none))))))]) → va_S (fun q => sz ≤ q) s.heap H1 locs →
                W p l e R s m args below meth c H1 locs (cells + 1) (slots + n.toNatClampNeg) Q (F0 m (pc + 3) ls (.ref q :: r.map (zq_tr sz ad))) := by
            intro t C t0 hks ht0 hce kk q cB H1 hK1 hP1 hD1 hS1
            have hcB : cB = cA t := by
              obtain ⟨kA, comp, -, -, -, h4⟩ := (hK1.2 6 (cB, .object C) rfl).2
              obtain ⟨kA2, comp2, -, -, -, h5⟩ := (hK.2 t0 _ ht0).2
              exact Option.some.inj (h4.symm.trans h5)
            subst hcB
            refine zq_sizeW (fun hz => ?_)
            have hq := zq_where (kd := (0, 0)) hP1 hD1 (by omega)
            subst hq
            have k1 := kk H1 locs rfl (by rw [zq_ws_app, hce]; exact hP1) hS1
            have k2 : W p l e R s m args below meth c H1 locs (cells + 1) (slots + (zq_ns h + zq_ks (t, n.toNatClampNeg) - zq_ns h)) Q (F0 m (pc + 3) ls (.ref (zq_adr sz ad (64 + h.1.length)) :: r.map (zq_tr sz ad))) := k1
            rw [zq_adr_new, hks, show zq_ns h + n.toNatClampNeg - zq_ns h = n.toNatClampNeg by omega] at k2
            exact k2
          have hzR : (fun k => ((zq_z0 h.2 (64 + h.1.length)).2.2 (64 + h.1.length) k).map (zq_adr sz ad)) = fun _ => none := funext fun b => by
            have : (zq_z0 h.2 (64 + h.1.length)).2.2 (64 + h.1.length) b = none := if_pos rfl
            rw [this]
            rfl
          split at hg
          next h4 =>
            dsimp only at h4
            subst h4
            cases hg
            dsimp only at kk hrc hrs
            rw [zq_len_mk] at kk hrc
            rw [zq_ns_mk] at kk hrs
            rw [e1] at kk hrc
            have hsl : slots + n.toNatClampNeg ≤ R.slots := by
              have hks : zq_ks (5, n.toNatClampNeg) = n.toNatClampNeg := rfl
              rw [hks] at hrs
              omega
            refine va_newq (D := (dC, dI)) (C := "RaffleArmy$State") hx hb hown (hts _ (zq_in hcl)) hAO1 hK hP (zq_D cA sz ad h) hS hA hn0 rfl (by omega) hrc hsl (zq_dl hd hn rfl) ?_
            exact fin 5 _ 4 rfl t5 (by show Sum.inl (cA 5, n.toNatClampNeg, Sum.inr (Sum.inr (Sum.inr (Sum.inr (fun k => ((zq_z0 h.2 (64 + h.1.length)).2.2 (64 + h.1.length) k).map (zq_adr sz ad)))))) = _; rw [hzR]) kk
          next =>
            split at hg
            next h2 =>
              dsimp only at h2
              subst h2
              cases hg
              dsimp only at kk hrc hrs
              rw [zq_len_mk] at kk hrc
              rw [zq_ns_mk] at kk hrs
              rw [e1] at kk hrc
              have hsl : slots + n.toNatClampNeg ≤ R.slots := by
                have hks : zq_ks (6, n.toNatClampNeg) = n.toNatClampNeg := rfl
                rw [hks] at hrs
                omega
              refine va_newq (D := (dC, dI)) (C := "RaffleArmy$Notes") hx hb hown (hts _ (zq_in hcl)) hAO2 hK hP (zq_D cA sz ad h) hS hA hn0 rfl (by omega) hrc hsl (zq_dl hd hn rfl) ?_
              exact fin 6 _ 5 rfl t6 (by show Sum.inl (cA 6, n.toNatClampNeg, Sum.inr (Sum.inr (Sum.inr (Sum.inr (fun k => ((zq_z0 h.2 (64 + h.1.length)).2.2 (64 + h.1.length) k).map (zq_adr sz ad)))))) = _; rw [hzR]) kk
            next => cases hg
      next => cases hg
    next => cases hg
  · cases hg
theorem zq_ga_ok {d : Nat} (cx : zq_cx dC dI cA sz ad sc p s m args meth c cc nL o ini) (hd : decode cc pc = .ok (ins, len)) (hn : zq_lnk ins len = true) (hg : zq_ga d o ins pc lv st h = some c') (hl : zq_lr sz ad ls nL lv) (hRf : R.frames = d) (hRl : R.locals = 40 * d) (hc : cells ≤ R.cells) (hs : slots ≤ R.slots)
    (kk : c'.2.1 = lv → c'.2.2.2 = h → W p l e R s m args below meth c H locs cells slots Q (F0 m c'.1 ls (c'.2.2.1.map (zq_tr sz ad)))) : W p l e R s m args below meth c H locs cells slots Q (F0 m pc ls (st.map (zq_tr sz ad))) := by
  obtain ⟨hx, hb, hml, hown, hts, henv, hin, ho⟩ := cx
  obtain ⟨c1, c2, c3, c4, c5, c6, c7⟩ := zq_mathc
  have hsz : c.maxLocals = ls.size := by rw [hml]; exact hl.1.1.symm
  unfold zq_ga at hg
  split at hg
  · cases hg
  next hd0 =>
  have hR1 : 1 ≤ R.frames := by rw [hRf]; omega
  split at hg
  · rename_i idx
    split at hg
    next e1 he =>
      obtain ⟨k, pz, nst⟩ := e1
      have hpk := zq_ppk o ho _ (zq_lk he)
      dsimp only at hg hpk
      split at hg
      next h1000 =>
        subst h1000
        split at hg
        next y x r =>
          split at hg
          next hcat =>
            cases hg
            have hlink : zq_has pz (.methodLink (zq_R o) idx Lib.Math.max.name) = true := by
              split at hpk
              · exact hpk
              · simp at hpk
            exact va_mmax hx hb hsz hown (hts _ (zq_in hlink)) (hts _ (zq_in c3)) (hts _ (zq_in c5)) (hts _ (zq_in c1)) hR1 (by rw [zq_cat_tr, hRl]; omega) hc hs (zq_dl hd hn rfl) (kk rfl rfl)
          next => cases hg
        next => cases hg
      next =>
        split at hg
        next h1001 =>
          subst h1001
          split at hg
          next y x r =>
            split at hg
            next hcat =>
              cases hg
              have hlink : zq_has pz (.methodLink (zq_R o) idx Lib.Math.min.name) = true := by
                split at hpk
                · exact hpk
                · simp at hpk
              exact va_mmin hx hb hsz hown (hts _ (zq_in hlink)) (hts _ (zq_in c4)) (hts _ (zq_in c5)) (hts _ (zq_in c2)) hR1 (by rw [zq_cat_tr, hRl]; omega) hc hs (zq_dl hd hn rfl) (kk rfl rfl)
            next => cases hg
          next => cases hg
        next => cases hg
    next => cases hg
  · rename_i idx
    split at hg
    next e1 he =>
      obtain ⟨k, pz, nst⟩ := e1
      have hpk := zq_ppk o ho _ (zq_lk he)
      dsimp only at hg hpk
      split at hg
      next h1002 =>
        subst h1002
        split at hg
        next a r =>
          split at hg
          next hcat =>
            cases hg
            have hlink : zq_has pz (.methodLink (zq_R o) idx Lib.objectInit) = true := by
              split at hpk
              · exact hpk
              · simp at hpk
            refine W.objInit hx hb hown (hts _ (zq_in hlink)) (hts _ (zq_in c7)) (hts _ (zq_in c6)) rfl hsz.symm rfl (zq_dl hd hn rfl) hR1 ?_ (kk rfl rfl)
            have hcr : ((r.map (zq_tr sz ad)).map fun v => v.category).sum ≤ 8 := by rw [zq_cat_tr]; exact hcat
            have := lv_room (m := m) (pc := pc) (ls := ls) (rest := (Value.ref a :: r).map (zq_tr sz ad)) (st := r.map (zq_tr sz ad)) hcr
            rw [hRl]
            show _ + 12 ≤ _
            omega
          next => cases hg
        next => cases hg
      next => cases hg
    next => cases hg
  · cases hg
end ZG
