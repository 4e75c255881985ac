/-! fields, arrays, what is made, the three methods of one step -/
theorem zq_fit_ok {ty : FieldType} {x : Int32} (h : zq_fit ty x = true) : narrow ty (.int x) = .int x ∧ fits ty (.int x) = true := by
  unfold zq_fit at h
  split at h
  · exact ⟨rfl, rfl⟩
  · rcases of_decide_eq_true h with rfl | rfl
    · exact ⟨rfl, rfl⟩
    · exact ⟨rfl, rfl⟩
  · have h1 := of_decide_eq_true h
    have h2 : fits .char (.int x) = true := by
      show (decide (0 ≤ x) && decide (x ≤ 65535)) = true
      rw [decide_eq_true h1.1, decide_eq_true h1.2]
      rfl
    refine ⟨?_, h2⟩
    have h3 : 0 ≤ x.toInt := by
      have := Int32.le_iff_toInt_le.mp h1.1
      simpa using this
    have h4 : x.toInt ≤ 65535 := by
      have := Int32.le_iff_toInt_le.mp h1.2
      simpa using this
    obtain ⟨n, hn, rfl⟩ : ∃ n : Nat, n < 65536 ∧ x = nI n := by
      obtain ⟨j, hj, rfl⟩ := nI_of (x := x) (fun q => by
        have := Int32.lt_iff_toInt_lt.mp q
        simp at this
        omega)
      refine ⟨j, ?_, rfl⟩
      rw [nI_toInt hj] at h4
      omega
    exact (pk_charN hn).1
  · cases h
section ZG
variable {dC : Nat → ClassId} {dI : Nat → Nat → Nat} {cA : Nat → ClassId} {sz : Nat} {ad : Nat → Nat} {sc : zX}
variable {p : Program} {l : Launch} {e : Env} {R : Room} {s : State} {m : MethodId} {args : Array Value} {below : List Frame} {meth : Method} {c : Code} {H : Heap} {locs : List Loc} {cells slots : Nat} {Q : State → Prop}
variable {cc : ByteArray} {ls : Array Slot} {nL pc o len : Nat} {ini : Bool} {ins : Instr} {lv : List (Option Value)} {st : List Value} {h : zH} {c' : zC}
/-- a write of a field: the store changes at one place alone -/
theorem zq_put_ok (cx : zq_cx dC dI cA sz ad sc p s m args meth c cc nL o ini) {i ci k a pos : Nat} (hd : decode cc pc = .ok (.putfield i, 3)) (he : (i, ci, k, pos) ∈ zq_fps.getD o []) (hci : ci < 11) (hfin : (zq_Tf ci k).2.2.2 = false ∨ (ini = true ∧ ci = o)) (hkd : zq_kd h a = some (0, ci)) {v : Value} {s' : zS} {r : List Value}
    (hrow : ∀ i, i ≠ a → s'.1 i = h.2.1 i ∧ s'.2.1 i = h.2.2.1 i ∧ s'.2.2 i = h.2.2.2 i) (hoth : ∀ t i, i ≠ k → zq_fv t s' a i = zq_fv t h.2 a i) (hnew : zq_fv (zq_tag (zq_ty ci k)) s' a k = v) (hn : narrow (zq_ty ci k) (zq_tr sz ad v) = zq_tr sz ad v) (hf : fits (zq_ty ci k) (zq_tr sz ad v) = true)
    (hP : va_P (dC, dI) zq_cl (zq_ws cA sz ad h) H) (hS : va_S (fun q => sz ≤ q) s.heap H locs)
    (kk : ∀ H' locs', va_P (dC, dI) zq_cl (zq_ws cA sz ad (h.1, s')) H' → va_S (fun q => sz ≤ q) s.heap H' locs' → W p l e R s m args below meth c H' locs' cells slots Q (F0 m (pc + 3) ls (r.map (zq_tr sz ad)))) : W p l e R s m args below meth c H locs cells slots Q (F0 m pc ls (zq_tr sz ad v :: .ref (zq_adr sz ad a) :: r.map (zq_tr sz ad))) := by
  obtain ⟨hx, hb, hml, hown, hts, henv, hin, ho⟩ := cx
  have hK := henv.1
  have hpk := zq_fpk o ho _ he
  dsimp only at hpk
  rw [if_pos hci] at hpk
  simp only [Bool.and_eq_true, decide_eq_true_eq] at hpk
  obtain ⟨⟨hk, hlink⟩, hdecl⟩ := hpk
  have hlink' := hts _ (zq_in hlink)
  obtain ⟨j, rfl, hj⟩ := zq_kd_at hkd
  rw [zq_adr_new]
  have hget : (zq_ws cA sz ad h)[j]? = some (sz + j, .inr (ci, (List.range (zq_N ci)).map (fun k => zq_tr sz ad (zq_fv (zq_tag (zq_ty ci k)) h.2 (64 + j) k)))) := zq_ws_get hj
  have hset : zq_ws cA sz ad (h.1, s') = (zq_ws cA sz ad h).set j (sz + j, .inr (ci, ((List.range (zq_N ci)).map (fun k => zq_tr sz ad (zq_fv (zq_tag (zq_ty ci k)) h.2 (64 + j) k))).set k (zq_tr sz ad v))) := by
    rw [zq_ws_set hj hrow]
    show (zq_ws cA sz ad h).set j (sz + j, .inr (ci, (List.range (zq_N ci)).map (fun k => zq_tr sz ad (zq_fv (zq_tag (zq_ty ci k)) s' (64 + j) k)))) = _
    rw [zq_fs_set hk (fun k => zq_tr sz ad (zq_fv (zq_tag (zq_ty ci k)) h.2 (64 + j) k)) (fun k => zq_tr sz ad (zq_fv (zq_tag (zq_ty ci k)) s' (64 + j) k)) (fun i hi => by rw [hoth _ i hi])]
    rw [hnew]
  have hsame : ∀ x, s.fieldFound? (zq_Tf ci k).1 (zq_Tf ci k).2.1 (zq_Tf ci k).2.2.1 = some x → s.fieldFound? (zq_R ci) (zq_Tf ci k).2.1 (zq_Tf ci k).2.2.1 = some x := by
    rw [hdecl]
    exact fun x h => h
  by_cases hf0 : (zq_Tf ci k).2.2.2 = false
  · refine va_put (D := (dC, dI)) hx hb hts (zq_lay hci) (zq_ty ci) (zq_tyok ci hci) (zq_nm ci hci) hown hK hP (zq_D cA sz ad h) hS j hget (zq_cl_get hci) k hk hlink' hsame hf0 (zq_tyok ci hci k hk) hn hf (by simpa using hk) hd (fun H1 locs1 hP1 _ hS1 => ?_)
    exact kk H1 locs1 (by rw [hset]; exact hP1) hS1
  · have hf1 : (zq_Tf ci k).2.2.2 = true := by
      cases hq : (zq_Tf ci k).2.2.2
      · exact absurd hq hf0
      · rfl
    rcases hfin with hq | ⟨hi, hco⟩
    · exact absurd hq hf0
    · refine va_putF (D := (dC, dI)) hx hb hts (zq_lay hci) (zq_ty ci) (zq_tyok ci hci) (zq_nm ci hci) hown hK hP (zq_D cA sz ad h) hS j hget (zq_cl_get hci) k hk hlink' hsame hf1 (hin hi) (by rw [hdecl, hco]) (zq_tyok ci hci k hk) hn hf (by simpa using hk) hd (fun H1 locs1 hP1 _ hS1 => ?_)
      exact kk H1 locs1 (by rw [hset]; exact hP1) hS1
theorem zq_rows_I (t : zS) (a k : Nat) (x : Int32) : (∀ i, i ≠ a → (zq_sI t a k x).1 i = t.1 i ∧ (zq_sI t a k x).2.1 i = t.2.1 i ∧ (zq_sI t a k x).2.2 i = t.2.2 i) ∧ (∀ y i, i ≠ k → zq_fv y (zq_sI t a k x) a i = zq_fv y t a i) ∧ (zq_sI t a k x).1 a k = x := by
  refine ⟨fun i hi => ⟨funext fun b => if_neg hi, rfl, rfl⟩, fun y i hi => ?_, by simp [zq_sI]⟩
  unfold zq_fv
  split
  · simp [zq_sI, hi]
  · rfl
  · rfl
theorem zq_rows_L (t : zS) (a k : Nat) (x : Int64) : (∀ i, i ≠ a → (zq_sL t a k x).1 i = t.1 i ∧ (zq_sL t a k x).2.1 i = t.2.1 i ∧ (zq_sL t a k x).2.2 i = t.2.2 i) ∧ (∀ y i, i ≠ k → zq_fv y (zq_sL t a k x) a i = zq_fv y t a i) ∧ (zq_sL t a k x).2.1 a k = x := by
  refine ⟨fun i hi => ⟨rfl, funext fun b => if_neg hi, rfl⟩, fun y i hi => ?_, by simp [zq_sL]⟩
  unfold zq_fv
  split
  · rfl
  · simp [zq_sL, hi]
  · rfl
theorem zq_rows_R (t : zS) (a k : Nat) (x : Option Nat) : (∀ i, i ≠ a → (zq_sR t a k x).1 i = t.1 i ∧ (zq_sR t a k x).2.1 i = t.2.1 i ∧ (zq_sR t a k x).2.2 i = t.2.2 i) ∧ (∀ y i, i ≠ k → zq_fv y (zq_sR t a k x) a i = zq_fv y t a i) ∧ (zq_sR t a k x).2.2 a k = x := by
  refine ⟨fun i hi => ⟨rfl, rfl, funext fun b => if_neg hi⟩, fun y i hi => ?_, by simp [zq_sR]⟩
  unfold zq_fv
  split
  · rfl
  · rfl
  · simp [zq_sR, hi]
theorem zq_ref_ty {ci k : Nat} (hci : ci < 11) (hk : k < zq_N ci) (h : zq_tag (zq_ty ci k) = 2) : ∀ v : Value, v = .null ∨ (∃ a, v = .ref a) → narrow (zq_ty ci k) v = v ∧ fits (zq_ty ci k) v = true := by
  have key : ∀ ci, ci < 11 → ∀ k, k < zq_N ci → zq_tag (zq_ty ci k) = 2 → (match zq_ty ci k with | .object _ => true | .array _ => true | _ => false) = true := by decide +kernel
  have h1 := key ci hci k hk h
  intro v hv
  cases hty : zq_ty ci k <;> rw [hty] at h1 <;> first | (cases h1; done) | (rcases hv with rfl | ⟨a, rfl⟩ <;> exact ⟨rfl, rfl⟩)
theorem zq_g7_ok (cx : zq_cx dC dI cA sz ad sc p s m args meth c cc nL o ini) (hd : decode cc pc = .ok (ins, len)) (hn : zq_lnk ins len = true) (hg : zq_g7 o ini ins pc lv st h = some c') (hP : va_P (dC, dI) zq_cl (zq_ws cA sz ad h) H) (hS : va_S (fun q => sz ≤ q) s.heap H locs)
    (kk : ∀ H' locs', c'.2.1 = lv → c'.2.2.2.1 = h.1 → va_P (dC, dI) zq_cl (zq_ws cA sz ad c'.2.2.2) H' → va_S (fun q => sz ≤ q) s.heap H' locs' → W p l e R s m args below meth c H' locs' cells slots Q (F0 m c'.1 ls (c'.2.2.1.map (zq_tr sz ad)))) : W p l e R s m args below meth c H locs cells slots Q (F0 m pc ls (st.map (zq_tr sz ad))) := by
  have cx' := cx
  obtain ⟨hx, hb, hml, hown, hts, henv, hin, ho⟩ := cx
  obtain ⟨hK, hNm, hNf, -, hZ, hZw, hTw, hE1, hE2, hE3, -⟩ := id henv
  unfold zq_g7 at hg
  split at hg
  · split at hg
    next e1 he =>
      obtain ⟨ci, k, pos⟩ := e1
      have hmem := zq_lk he
      split at hg
      next a r =>
        dsimp only at hg
        split at hg
        next hci =>
          obtain ⟨v, hv, rfl⟩ := Option.map_eq_some_iff.mp hg
          unfold zq_gf at hv
          split at hv
          next hkd =>
            cases hv
            have hpk := zq_fpk o ho _ hmem
            dsimp only at hpk
            rw [if_pos hci] at hpk
            simp only [Bool.and_eq_true, decide_eq_true_eq] at hpk
            obtain ⟨⟨hk, hlink⟩, hdecl⟩ := hpk
            obtain ⟨j, rfl, hj⟩ := zq_kd_at hkd
            show W p l e R s m args below meth c H locs cells slots Q (F0 m pc ls (.ref (zq_adr sz ad (64 + j)) :: r.map (zq_tr sz ad)))
            rw [zq_adr_new]
            have hget : (zq_ws cA sz ad h)[j]? = some (sz + j, .inr (ci, (List.range (zq_N ci)).map (fun k => zq_tr sz ad (zq_fv (zq_tag (zq_ty ci k)) h.2 (64 + j) k)))) := zq_ws_get hj
            refine va_get (D := (dC, dI)) hx hb hts (zq_lay hci) hown hK hP j hget (zq_cl_get hci) k hk (hts _ (zq_in hlink)) ?_ (zq_fs_get hk _) (zq_dl hd hn rfl) (kk H locs rfl rfl hP hS)
            rw [hdecl]
            exact fun x h => h
          next => cases hv
        next hci =>
          split at hg
          next h20 =>
            obtain ⟨rfl, ha⟩ := h20
            have hpk := zq_fpk o ho _ hmem
            dsimp only at hpk
            rw [if_neg hci, if_pos rfl] at hpk
            have hadr : zq_adr sz ad a = ad a := if_pos (Nat.lt_trans ha (by decide))
            show W p l e R s m args below meth c H locs cells slots Q (F0 m pc ls (.ref (zq_adr sz ad a) :: r.map (zq_tr sz ad)))
            rw [hadr]
            split at hg
            · cases hg
              exact va_getX hx hb hE1 ha hS hown (hts _ (zq_in hpk)) (fun x h => h) (zq_dl hd hn rfl) (kk H locs rfl rfl hP hS)
            · cases hg
              exact va_getX hx hb hE2 ha hS hown (hts _ (zq_in hpk)) (fun x h => h) (zq_dl hd hn rfl) (kk H locs rfl rfl hP hS)
            · cases hg
              exact va_getX hx hb hE3 ha hS hown (hts _ (zq_in hpk)) (fun x h => h) (zq_dl hd hn rfl) (kk H locs rfl rfl hP hS)
            · cases hg
          next => cases hg
      next => cases hg
    next => cases hg
  · split at hg
    next e1 he =>
      obtain ⟨ci, k, pos⟩ := e1
      have hmem := zq_lk he
      split at hg
      next v a r =>
        dsimp only at hg
        split at hg
        next hc1 =>
          obtain ⟨hci, hfin⟩ := hc1
          obtain ⟨h', hv, rfl⟩ := Option.map_eq_some_iff.mp hg
          unfold zq_pf at hv
          have hpk := zq_fpk o ho _ hmem
          dsimp only at hpk
          rw [if_pos hci] at hpk
          simp only [Bool.and_eq_true, decide_eq_true_eq] at hpk
          obtain ⟨⟨hk, -⟩, -⟩ := hpk
          split at hv
          next hkd =>
            split at hv
            next x ht =>
              split at hv
              next hfit =>
                cases hv
                obtain ⟨r1, r2, r3⟩ := zq_rows_I h.2 a k x
                exact zq_put_ok cx' (zq_dl hd hn rfl) hmem hci hfin hkd (v := .int x) r1 r2 (by rw [ht]; show Value.int _ = _; rw [r3]) (zq_fit_ok hfit).1 (zq_fit_ok hfit).2 hP hS (fun H' locs' a1 a2 => kk H' locs' rfl rfl a1 a2)
              next => cases hv
            next x ht =>
              cases hv
              obtain ⟨r1, r2, r3⟩ := zq_rows_L h.2 a k x
              have hty : zq_ty ci k = .long := by
                cases hq : zq_ty ci k <;> rw [hq] at ht <;> first | rfl | cases ht
              exact zq_put_ok cx' (zq_dl hd hn rfl) hmem hci hfin hkd (v := .long x) r1 r2 (by rw [ht]; show Value.long _ = _; rw [r3]) (by rw [hty]; rfl) (by rw [hty]; rfl) hP hS (fun H' locs' a1 a2 => kk H' locs' rfl rfl a1 a2)
            next x ht =>
              cases hv
              obtain ⟨r1, r2, r3⟩ := zq_rows_R h.2 a k (some x)
              have hty := zq_ref_ty hci hk ht (zq_tr sz ad (.ref x)) (Or.inr ⟨_, rfl⟩)
              exact zq_put_ok cx' (zq_dl hd hn rfl) hmem hci hfin hkd (v := .ref x) r1 r2 (by rw [ht]; show va_rf _ = _; rw [r3]; rfl) hty.1 hty.2 hP hS (fun H' locs' a1 a2 => kk H' locs' rfl rfl a1 a2)
            next ht =>
              cases hv
              obtain ⟨r1, r2, r3⟩ := zq_rows_R h.2 a k none
              have hty := zq_ref_ty hci hk ht (zq_tr sz ad .null) (Or.inl rfl)
              exact zq_put_ok cx' (zq_dl hd hn rfl) hmem hci hfin hkd (v := .null) r1 r2 (by rw [ht]; show va_rf _ = _; rw [r3]; rfl) hty.1 hty.2 hP hS (fun H' locs' a1 a2 => kk H' locs' rfl rfl a1 a2)
            next => cases hv
          next => cases hv
        next => cases hg
      next => cases hg
    next => cases hg
  · split at hg
    next h60 =>
      obtain ⟨rfl, rfl⟩ := h60
      cases hg
      refine va_getsN hx hb hZw hS hown (va_Nw.use rfl hNf) (fun x h => h) (zq_dl hd hn rfl) ?_
      have k := kk H locs rfl rfl hP hS
      exact k
    next =>
      split at hg
      next e1 he =>
        obtain ⟨ci, k, pos⟩ := e1
        have hmem := zq_lk he
        dsimp only at hg
        split at hg
        next h21 =>
          cases hg
          have hpk := zq_fpk o ho _ hmem
          dsimp only at hpk
          rw [if_neg (by omega), if_neg (by omega), if_pos h21] at hpk
          simp only [Bool.and_eq_true, decide_eq_true_eq] at hpk
          have hadr : zq_adr sz ad k = ad k := if_pos (by omega)
          have kk' := kk H locs rfl rfl hP hS
          have kk2 : W p l e R s m args below meth c H locs cells slots Q (F0 m (pc + 3) ls (.ref (zq_adr sz ad k) :: st.map (zq_tr sz ad))) := kk'
          rw [hadr] at kk2
          exact va_gets hx hb (hZ k hpk.1) hS hown (hts _ (zq_in hpk.2)) (fun x h => h) (zq_dl hd hn rfl) kk2
        next => cases hg
      next => cases hg
  · cases hg
end ZG
