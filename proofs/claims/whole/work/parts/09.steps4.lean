/-! arrays, what is made, the methods that are one step -/
theorem zq_tysx (cA : Nat → ClassId) : (zq_tys cA)[0]? = some (cA 1, .int) ∧ (zq_tys cA)[1]? = some (cA 2, .long) ∧ (zq_tys cA)[2]? = some (cA 3, .char) ∧ (zq_tys cA)[3]? = some (cA 4, .boolean) ∧ (zq_tys cA)[4]? = some (cA 5, .object "RaffleArmy$State") ∧ (zq_tys cA)[5]? = some (cA 6, .object "RaffleArmy$Notes") := ⟨rfl, rfl, rfl, rfl, rfl, rfl⟩
section ZG
variable {dC : Nat → ClassId} {dI : Nat → Nat → Nat} {cA : Nat → ClassId} {sz : Nat} {ad : Nat → Nat} {sc : zX}
variable {p : Program} {l : Launch} {e : Env} {R : Room} {s : State} {m : MethodId} {args : Array Value} {below : List Frame} {meth : Method} {c : Code} {H : Heap} {locs : List Loc} {cells slots : Nat} {Q : State → Prop}
variable {cc : ByteArray} {ls : Array Slot} {nL pc o len : Nat} {ini : Bool} {ins : Instr} {lv : List (Option Value)} {st : List Value} {h : zH} {c' : zC}
/-- the picture behind a write into an array of ints -/
theorem zq_wsI {a j n : Nat} {t : Nat} (ht : t = 1 ∨ t = 3 ∨ t = 4) (hj : h.1[j]? = some (t, n)) (i : Nat) (x : Int32) : zq_ws cA sz ad (h.1, zq_sI h.2 (64 + j) i x) = (zq_ws cA sz ad h).set j (sz + j, .inl (cA t, n, .inl (upd (h.2.1 (64 + j)) i x))) := by
  obtain ⟨r1, -, -⟩ := zq_rows_I h.2 (64 + j) i x
  rw [zq_ws_set hj r1]
  have e1 : (zq_sI h.2 (64 + j) i x).1 (64 + j) = upd (h.2.1 (64 + j)) i x := by
    funext b
    simp [zq_sI, upd]
  rcases ht with rfl | rfl | rfl
  · show (zq_ws cA sz ad h).set j (sz + j, .inl (cA 1, n, .inl ((zq_sI h.2 (64 + j) i x).1 (64 + j)))) = _
    rw [e1]
  · show (zq_ws cA sz ad h).set j (sz + j, .inl (cA 3, n, .inl ((zq_sI h.2 (64 + j) i x).1 (64 + j)))) = _
    rw [e1]
  · show (zq_ws cA sz ad h).set j (sz + j, .inl (cA 4, n, .inl ((zq_sI h.2 (64 + j) i x).1 (64 + j)))) = _
    rw [e1]
theorem zq_wsL {j n : Nat} (hj : h.1[j]? = some (2, n)) (i : Nat) (x : Int64) : zq_ws cA sz ad (h.1, zq_sL h.2 (64 + j) i x) = (zq_ws cA sz ad h).set j (sz + j, .inl (cA 2, n, .inr (.inl (vp_updL (h.2.2.1 (64 + j)) i x)))) := by
  obtain ⟨r1, -, -⟩ := zq_rows_L h.2 (64 + j) i x
  rw [zq_ws_set hj r1]
  have e1 : (zq_sL h.2 (64 + j) i x).2.1 (64 + j) = vp_updL (h.2.2.1 (64 + j)) i x := by
    funext b
    simp [zq_sL, vp_updL]
  show (zq_ws cA sz ad h).set j (sz + j, .inl (cA 2, n, .inr (.inl ((zq_sL h.2 (64 + j) i x).2.1 (64 + j))))) = _
  rw [e1]
theorem zq_wsR {j n t : Nat} (ht : t = 5 ∨ t = 6) (hj : h.1[j]? = some (t, n)) (i x : Nat) : zq_ws cA sz ad (h.1, zq_sR h.2 (64 + j) i (some x)) = (zq_ws cA sz ad h).set j (sz + j, .inl (cA t, n, .inr (.inr (.inr (.inr (va_up (fun k => (h.2.2.2 (64 + j) k).map (zq_adr sz ad)) i (some (zq_adr sz ad x)))))))) := by
  obtain ⟨r1, -, -⟩ := zq_rows_R h.2 (64 + j) i (some x)
  rw [zq_ws_set hj r1]
  have e1 : (fun k => ((zq_sR h.2 (64 + j) i (some x)).2.2 (64 + j) k).map (zq_adr sz ad)) = va_up (fun k => (h.2.2.2 (64 + j) k).map (zq_adr sz ad)) i (some (zq_adr sz ad x)) := by
    funext b
    by_cases hb : b = i
    · simp [zq_sR, va_up, hb]
    · simp [zq_sR, va_up, hb]
  rcases ht with rfl | rfl
  · show (zq_ws cA sz ad h).set j (sz + j, .inl (cA 5, n, .inr (.inr (.inr (.inr (fun k => ((zq_sR h.2 (64 + j) i (some x)).2.2 (64 + j) k).map (zq_adr sz ad))))))) = _
    rw [e1]
  · show (zq_ws cA sz ad h).set j (sz + j, .inl (cA 6, n, .inr (.inr (.inr (.inr (fun k => ((zq_sR h.2 (64 + j) i (some x)).2.2 (64 + j) k).map (zq_adr sz ad))))))) = _
    rw [e1]
theorem zq_ref_eq (sz : Nat) (ad : Nat → Nat) (j : Nat) : zq_tr sz ad (.ref (64 + j)) = .ref (sz + j) := by
  show Value.ref (zq_adr sz ad (64 + j)) = _
  rw [zq_adr_new]
theorem zq_rf_tr (sz : Nat) (ad : Nat → Nat) (r : Option Nat) : zq_tr sz ad (va_rf r) = va_rf (r.map (zq_adr sz ad)) := by cases r <;> rfl
theorem zq_g8_ok (cx : zq_cx dC dI cA sz ad sc p s m args meth c cc nL o ini) (hd : decode cc pc = .ok (ins, len)) (hn : zq_lnk ins len = true) (hg : zq_g8 sc ins pc lv st h = some c') (hP : va_P (dC, dI) zq_cl (zq_ws cA sz ad h) H) (hS : va_S (fun q => sz ≤ q) s.heap H locs)
    (kk : ∀ H' locs', c'.2.1 = lv → c'.2.2.2.1 = h.1 → va_P (dC, dI) zq_cl (zq_ws cA sz ad c'.2.2.2) H' → va_S (fun q => sz ≤ q) s.heap H' locs' → W p l e R s m args below meth c H' locs' cells slots Q (F0 m c'.1 ls (c'.2.2.1.map (zq_tr sz ad)))) : W p l e R s m args below meth c H locs cells slots Q (F0 m pc ls (st.map (zq_tr sz ad))) := by
  obtain ⟨hx, hb, hml, hown, hts, henv, hin, ho⟩ := cx
  obtain ⟨hK, hNm, hNf, -, hZ, hZw, hTw, hE1, hE2, hE3, hXX, -⟩ := id henv
  obtain ⟨t1, t2, t3, t4, t5, t6⟩ := zq_tysx cA
  unfold zq_g8 at hg
  split at hg
  · split at hg
    next i a r =>
      obtain ⟨v, hv, rfl⟩ := Option.map_eq_some_iff.mp hg
      unfold zq_rdI at hv
      split at hv
      next h37 =>
        subst h37
        split at hv
        next => cases hv
        next hi =>
          cases hv
          obtain ⟨hX, hX1, hX2⟩ := hXX (fun e0 => hi (Or.inr (by omega)))
          exact va_sld hx hb hX hX1 (Nat.not_le.mpr hX2) hS (fun q => hi (q.elim Or.inl (fun w => Or.inr (by omega)))) (zq_dl hd hn rfl) (kk H locs rfl rfl hP hS)
      next =>
        split at hv
        next n hkd =>
          split at hv
          next => cases hv
          next hi =>
            cases hv
            obtain ⟨j, rfl, hj⟩ := zq_kd_at hkd
            show W p l e R s m args below meth c H locs cells slots Q (F0 m pc ls (.int i :: zq_tr sz ad (.ref (64 + j)) :: r.map (zq_tr sz ad)))
            rw [zq_ref_eq]
            exact va_iald hx hb hK hP j 0 (zq_ws_get hj) t1 hi (zq_dl hd hn rfl) (kk H locs rfl rfl hP hS)
        next => cases hv
    next => cases hg
  · split at hg
    next i a r =>
      obtain ⟨v, hv, rfl⟩ := Option.map_eq_some_iff.mp hg
      unfold zq_rdX at hv
      split at hv
      next t n hkd =>
        split at hv
        next ht =>
          subst ht
          split at hv
          next => cases hv
          next hi =>
            cases hv
            obtain ⟨j, rfl, hj⟩ := zq_kd_at hkd
            show W p l e R s m args below meth c H locs cells slots Q (F0 m pc ls (.int i :: zq_tr sz ad (.ref (64 + j)) :: r.map (zq_tr sz ad)))
            rw [zq_ref_eq]
            exact va_cald hx hb hK hP j 2 (zq_ws_get hj) t3 hi (zq_dl hd hn rfl) (kk H locs rfl rfl hP hS)
        next => cases hv
      next => cases hv
    next => cases hg
  · split at hg
    next i a r =>
      obtain ⟨v, hv, rfl⟩ := Option.map_eq_some_iff.mp hg
      unfold zq_rdX at hv
      split at hv
      next t n hkd =>
        split at hv
        next ht =>
          subst ht
          split at hv
          next => cases hv
          next hi =>
            cases hv
            obtain ⟨j, rfl, hj⟩ := zq_kd_at hkd
            show W p l e R s m args below meth c H locs cells slots Q (F0 m pc ls (.int i :: zq_tr sz ad (.ref (64 + j)) :: r.map (zq_tr sz ad)))
            rw [zq_ref_eq]
            exact va_zald hx hb hK hP j 3 (zq_ws_get hj) t4 hi (zq_dl hd hn rfl) (kk H locs rfl rfl hP hS)
        next => cases hv
      next => cases hv
    next => cases hg
  · split at hg
    next i a r =>
      obtain ⟨v, hv, rfl⟩ := Option.map_eq_some_iff.mp hg
      unfold zq_rdL at hv
      split at hv
      next n hkd =>
        split at hv
        next => cases hv
        next hi =>
          cases hv
          obtain ⟨j, rfl, hj⟩ := zq_kd_at hkd
          show W p l e R s m args below meth c H locs cells slots Q (F0 m pc ls (.int i :: zq_tr sz ad (.ref (64 + j)) :: r.map (zq_tr sz ad)))
          rw [zq_ref_eq]
          exact va_lald hx hb hK hP j 1 (zq_ws_get hj) t2 hi (zq_dl hd hn rfl) (kk H locs rfl rfl hP hS)
      next => cases hv
    next => cases hg
  · split at hg
    next i a r =>
      obtain ⟨v, hv, rfl⟩ := Option.map_eq_some_iff.mp hg
      have k1 := kk H locs rfl rfl hP hS
      have k2 : W p l e R s m args below meth c H locs cells slots Q (F0 m (pc + 1) ls (zq_tr sz ad (va_rf v) :: r.map (zq_tr sz ad))) := k1
      rw [zq_rf_tr] at k2
      unfold zq_rdR at hv
      split at hv
      next h36 =>
        subst h36
        split at hv
        next => cases hv
        next hi =>
          cases hv
          have hlt : i.toNatClampNeg < 36 := Nat.not_le.mp fun q => hi (Or.inr q)
          refine vb_tq (C := "RaffleArmy$Word") hx hb hTw hS hi (v := .ref (ad i.toNatClampNeg)) rfl (zq_dl hd hn rfl) ?_
          have e1 : zq_adr sz ad i.toNatClampNeg = ad i.toNatClampNeg := if_pos (by omega)
          have k3 : W p l e R s m args below meth c H locs cells slots Q (F0 m (pc + 1) ls (.ref (zq_adr sz ad i.toNatClampNeg) :: r.map (zq_tr sz ad))) := k2
          rw [e1] at k3
          exact k3
      next =>
        split at hv
        next t n hkd =>
          split at hv
          next ht =>
            split at hv
            next => cases hv
            next hi =>
              cases hv
              obtain ⟨j, rfl, hj⟩ := zq_kd_at hkd
              show W p l e R s m args below meth c H locs cells slots Q (F0 m pc ls (.int i :: zq_tr sz ad (.ref (64 + j)) :: r.map (zq_tr sz ad)))
              rw [zq_ref_eq]
              rcases ht with rfl | rfl
              · exact va_aldq hx hb hK hP j 4 (zq_ws_get hj) t5 hi (zq_dl hd hn rfl) k2
              · exact va_aldq hx hb hK hP j 5 (zq_ws_get hj) t6 hi (zq_dl hd hn rfl) k2
          next => cases hv
        next => cases hv
    next => cases hg
  · split at hg
    next a r =>
      obtain ⟨v, hv, rfl⟩ := Option.map_eq_some_iff.mp hg
      unfold zq_len at hv
      split at hv
      next h37 =>
        subst h37
        split at hv
        next => cases hv
        next hsc =>
          cases hv
          obtain ⟨hX, hX1, hX2⟩ := hXX hsc
          exact va_slen hx hb hX hX1 (Nat.not_le.mpr hX2) hS (zq_dl hd hn rfl) (kk H locs rfl rfl hP hS)
      next =>
        split at hv
        next h36 =>
          subst h36
          cases hv
          exact va_tlen hx hb hTw hS rfl (zq_dl hd hn rfl) (kk H locs rfl rfl hP hS)
        next =>
          split at hv
          next t n hkd =>
            split at hv
            next ht =>
              cases hv
              obtain ⟨j, rfl, hj⟩ := zq_kd_at hkd
              show W p l e R s m args below meth c H locs cells slots Q (F0 m pc ls (zq_tr sz ad (.ref (64 + j)) :: r.map (zq_tr sz ad)))
              rw [zq_ref_eq]
              have k1 := kk H locs rfl rfl hP hS
              match t, ht, hj with
              | 0, _, hj => exact va_alen hx hb hK hP j 0 (zq_ws_get hj) t1 rfl (zq_dl hd hn rfl) k1
              | 1, _, hj => exact va_alen hx hb hK hP j 1 (zq_ws_get hj) t2 rfl (zq_dl hd hn rfl) k1
              | 2, _, hj => exact va_alen hx hb hK hP j 2 (zq_ws_get hj) t3 rfl (zq_dl hd hn rfl) k1
              | 3, _, hj => exact va_alen hx hb hK hP j 3 (zq_ws_get hj) t4 rfl (zq_dl hd hn rfl) k1
              | 4, _, hj => exact va_alen hx hb hK hP j 4 (zq_ws_get hj) t5 rfl (zq_dl hd hn rfl) k1
              | 5, _, hj => exact va_alen hx hb hK hP j 5 (zq_ws_get hj) t6 rfl (zq_dl hd hn rfl) k1
              | t + 6, ht, _ => exact absurd ht (by omega)
            next => cases hv
          next => cases hv
    next => cases hg
  · split at hg
    next x i a r =>
      obtain ⟨h', hv, rfl⟩ := Option.map_eq_some_iff.mp hg
      unfold zq_wrX at hv
      split at hv
      next t n hkd =>
        split at hv
        next ht =>
          subst ht
          split at hv
          next => cases hv
          next hi =>
            cases hv
            obtain ⟨j, rfl, hj⟩ := zq_kd_at hkd
            show W p l e R s m args below meth c H locs cells slots Q (F0 m pc ls (.int x :: .int i :: zq_tr sz ad (.ref (64 + j)) :: r.map (zq_tr sz ad)))
            rw [zq_ref_eq]
            exact va_iast hx hb hK hP (zq_D cA sz ad h) hS j 0 (zq_ws_get hj) t1 hi (zq_dl hd hn rfl) (fun H1 locs1 hP1 _ hS1 => kk H1 locs1 rfl rfl (by rw [zq_wsI (a := 0) (Or.inl rfl) hj]; exact hP1) hS1)
        next => cases hv
      next => cases hv
    next => cases hg
  · split at hg
    next x i a r =>
      obtain ⟨h', hv, rfl⟩ := Option.map_eq_some_iff.mp hg
      unfold zq_wrX at hv
      split at hv
      next t n hkd =>
        split at hv
        next ht =>
          subst ht
          split at hv
          next => cases hv
          next hi =>
            cases hv
            obtain ⟨j, rfl, hj⟩ := zq_kd_at hkd
            show W p l e R s m args below meth c H locs cells slots Q (F0 m pc ls (.int x :: .int i :: zq_tr sz ad (.ref (64 + j)) :: r.map (zq_tr sz ad)))
            rw [zq_ref_eq]
            exact va_cast hx hb hK hP (zq_D cA sz ad h) hS j 2 (zq_ws_get hj) t3 hi (zq_dl hd hn rfl) (fun H1 locs1 hP1 _ hS1 => kk H1 locs1 rfl rfl (by rw [zq_wsI (a := 0) (Or.inr (Or.inl rfl)) hj]; exact hP1) hS1)
        next => cases hv
      next => cases hv
    next => cases hg
  · split at hg
    next x i a r =>
      obtain ⟨h', hv, rfl⟩ := Option.map_eq_some_iff.mp hg
      unfold zq_wrX at hv
      split at hv
      next t n hkd =>
        split at hv
        next ht =>
          subst ht
          split at hv
          next => cases hv
          next hi =>
            cases hv
            obtain ⟨j, rfl, hj⟩ := zq_kd_at hkd
            show W p l e R s m args below meth c H locs cells slots Q (F0 m pc ls (.int x :: .int i :: zq_tr sz ad (.ref (64 + j)) :: r.map (zq_tr sz ad)))
            rw [zq_ref_eq]
            exact va_zast hx hb hK hP (zq_D cA sz ad h) hS j 3 (zq_ws_get hj) t4 hi (zq_dl hd hn rfl) (fun H1 locs1 hP1 _ hS1 => kk H1 locs1 rfl rfl (by rw [zq_wsI (a := 0) (Or.inr (Or.inr rfl)) hj]; exact hP1) hS1)
        next => cases hv
      next => cases hv
    next => cases hg
  · split at hg
    next x i a r =>
      obtain ⟨h', hv, rfl⟩ := Option.map_eq_some_iff.mp hg
      unfold zq_wrL at hv
      split at hv
      next n hkd =>
        split at hv
        next => cases hv
        next hi =>
          cases hv
          obtain ⟨j, rfl, hj⟩ := zq_kd_at hkd
          show W p l e R s m args below meth c H locs cells slots Q (F0 m pc ls (.long x :: .int i :: zq_tr sz ad (.ref (64 + j)) :: r.map (zq_tr sz ad)))
          rw [zq_ref_eq]
          exact va_last hx hb hK hP (zq_D cA sz ad h) hS j 1 (zq_ws_get hj) t2 hi (zq_dl hd hn rfl) (fun H1 locs1 hP1 _ hS1 => kk H1 locs1 rfl rfl (by rw [zq_wsL hj]; exact hP1) hS1)
      next => cases hv
    next => cases hg
  · split at hg
    next x i a r =>
      obtain ⟨h', hv, rfl⟩ := Option.map_eq_some_iff.mp hg
      unfold zq_wrR at hv
      split at hv
      next t n c1 hkd hkx =>
        split at hv
        next ht =>
          split at hv
          next => cases hv
          next hi =>
            cases hv
            obtain ⟨j, rfl, hj⟩ := zq_kd_at hkd
            obtain ⟨jx, rfl, hjx⟩ := zq_kd_at hkx
            show W p l e R s m args below meth c H locs cells slots Q (F0 m pc ls (zq_tr sz ad (.ref (64 + jx)) :: .int i :: zq_tr sz ad (.ref (64 + j)) :: r.map (zq_tr sz ad)))
            rw [zq_ref_eq, zq_ref_eq]
            rcases ht with ⟨rfl, rfl⟩ | ⟨rfl, rfl⟩
            · exact va_astq (r := (zq_R 4, zq_Tf 4, zq_N 4)) hx hb hK hP (zq_D cA sz ad h) hS j 4 jx 4 (zq_ws_get hj) t5 (zq_ws_get hjx) (zq_cl_get (by decide)) hi (zq_dl hd hn rfl) (fun H1 locs1 hP1 _ hS1 => kk H1 locs1 rfl rfl (by rw [zq_wsR (Or.inl rfl) hj, zq_adr_new]; exact hP1) hS1)
            · exact va_astq (r := (zq_R 2, zq_Tf 2, zq_N 2)) hx hb hK hP (zq_D cA sz ad h) hS j 5 jx 2 (zq_ws_get hj) t6 (zq_ws_get hjx) (zq_cl_get (by decide)) hi (zq_dl hd hn rfl) (fun H1 locs1 hP1 _ hS1 => kk H1 locs1 rfl rfl (by rw [zq_wsR (Or.inr rfl) hj, zq_adr_new]; exact hP1) hS1)
        next => cases hv
      next => cases hv
    next => cases hg
  · cases hg
end ZG
