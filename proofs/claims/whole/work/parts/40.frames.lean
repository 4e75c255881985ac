/-! frames by hand: any end, any post; a call in them -/
section ZG
variable {dC : Nat → ClassId} {dI : Nat → Nat → Nat} {cA : Nat → ClassId} {sz : Nat} {ad : Nat → Nat} {sc : zX}
variable {p : Program} {l : Launch} {e : Env} {R : Room} {s : State} {m : MethodId} {args : Array Value} {below : List Frame} {meth : Method} {c : Code} {H : Heap} {locs : List Loc} {cells slots : Nat} {Q : State → Prop}
variable {cc : ByteArray} {ls : Array Slot} {nL pc o len : Nat} {ini : Bool} {ins : Instr} {lv : List (Option Value)} {st : List Value} {h : zH} {c' : zC}
theorem zq_callW {al : Bool} {n d' k' : Nat} {as rest : List Value} {v1 : Option Value} {h1 : zH} (cx : zq_cx dC dI cA sz ad sc p s m args meth c cc nL o ini) (hd : decode cc pc = .ok (ins, len)) (hn : zq_lnk ins len = true) (hcal : zq_cal o ins st h = some (k', as, rest)) (hr1 : zq_run sc al n d' k' 0 (zq_ent (zq_maxL k') as) [] h = some (v1, h1)) (hl : zq_lr sz ad ls nL lv) (hP : va_P (dC, dI) zq_cl (zq_ws cA sz ad h) H) (hS : va_S (fun q => sz ≤ q) s.heap H locs)
    (hRf : d' + 1 ≤ R.frames) (hRl : 40 * (d' + 1) ≤ R.locals) (hacc : al = true → s.heap.size + cells = sz + h.1.length) (hfc : cells + (h1.1.length - h.1.length) ≤ R.cells ∧ slots + (zq_ns h1 - zq_ns h) ≤ R.slots)
    (kk : ∀ H1 locs1, va_P (dC, dI) zq_cl (zq_ws cA sz ad h1) H1 → va_S (fun q => sz ≤ q) s.heap H1 locs1 → W p l e R s m args below meth c H1 locs1 (cells + (h1.1.length - h.1.length)) (slots + (zq_ns h1 - zq_ns h)) Q (F0 m (pc + 3) ls ((v1.toList ++ rest).map (zq_tr sz ad)))) : W p l e R s m args below meth c H locs cells slots Q (F0 m pc ls (st.map (zq_tr sz ad))) := by
  obtain ⟨hx, hb, hml, hown, hts, henv, hin, ho⟩ := id cx
  unfold zq_cal at hcal
  split at hcal
  · cases hcal
  next i kd hik =>
  split at hcal
  · cases hcal
  next e1 he =>
  split at hcal
  · cases hcal
  next q' hq' =>
  split at hcal
  next hcond =>
    obtain ⟨hkd, hlen, hcat, hsls, hrcv⟩ := hcond
    cases hcal
    have hmx : zq_maxL e1.1 = q'.2.2.1 := (zq_ownk hq').2.1
    rw [hmx] at hr1
    have hM : Met l q'.1 (zq_cw q' :: zq_WG) (zq_rm d' h h1) (zq_Pc dC dI cA sz ad sc al _ h) (zq_Qc dC dI cA sz ad v1 h1) (h1.1.length - h.1.length) (zq_ns h1 - zq_ns h) (fun q => sz ≤ q) := zq_met n d' e1.1 q' _ h v1 h1 hq' hsls hr1
    obtain ⟨hcw, pz, hm⟩ := zq_mok hq'
    obtain ⟨f1, f2, f3, f4, f5, f6, f7, f8, f9, f10, f11⟩ := zq_mfacts hm
    have hy : zq_spl e1.1 = q'.1 := by
      have hk' : e1.1 < 265 := by rw [← zq_MTlen]; exact (List.getElem?_eq_some_iff.mp hq').1
      unfold zq_spl zq_y
      rw [if_neg (by omega), if_neg (by omega), if_neg (by omega), if_neg (by omega), zq_getD hq']
    have hpk := zq_ppk _ ho _ (zq_lk he)
    dsimp only at hpk
    rw [hy] at hpk
    have hR : (zq_rm d' h h1).frames + 1 ≤ R.frames ∧ 8 + (q'.2.2.1 + 11) + (zq_rm d' h h1).locals ≤ R.locals := by
      refine ⟨hRf, ?_⟩
      show 8 + (q'.2.2.1 + 11) + 40 * d' ≤ R.locals
      omega
    have hW : 2 * (F0 m pc ls (st.map (zq_tr sz ad))).monitorRoom + (((st.drop q'.2.2.2.2.2.1).map (zq_tr sz ad)).map fun v => v.category).sum ≤ 8 := lv_room (by rw [zq_cat_tr]; exact hcat)
    have fin : ∀ (a : Array Value), va_Run p l e R s m args below meth c H locs cells slots (h1.1.length - h.1.length) (zq_ns h1 - zq_ns h) (F0 m pc ls (st.map (zq_tr sz ad))) ((st.drop q'.2.2.2.2.2.1).map (zq_tr sz ad)) (zq_Qc dC dI cA sz ad v1 h1 a) (fun q => sz ≤ q) → W p l e R s m args below meth c H locs cells slots Q (F0 m pc ls (st.map (zq_tr sz ad))) := by
      intro a hrun
      refine zq_call hrun hS (fun H1 locs1 hP1 hS1 => ?_)
      have k := kk H1 locs1 hP1 hS1
      have e9 : (v1.map (zq_tr sz ad)).toList ++ (st.drop q'.2.2.2.2.2.1).map (zq_tr sz ad) = (v1.toList ++ st.drop q'.2.2.2.2.2.1).map (zq_tr sz ad) := by cases v1 <;> simp
      rw [e9]
      exact k
    refine zq_sizeW (fun hz => ?_)
    have hHs : al = true → H.size = sz + h.1.length := by
      intro ha
      have g1 := hacc ha
      have g2 := zq_low hP (Nat.le_trans henv.2.2.2.2.2.2.2.2.2.2.2.2.2 hS.1)
      omega
    have hblind : FrameBlind (zq_Pc dC dI cA sz ad sc al (st.take q'.2.2.2.2.2.1).reverse h) := fun a U g mk ⟨g1, g2, g3, g4⟩ => ⟨g1, g2.calling, g3, g4⟩
    have hpc : ∀ U : State, U.heap = H → s.WarmedH U.vm → zq_Pc dC dI cA sz ad sc al (st.take q'.2.2.2.2.2.1).reverse h ((st.take q'.2.2.2.2.2.1).reverse.map (zq_tr sz ad)).toArray U := by
      intro U hU hWm
      refine ⟨rfl, ?_, by rw [hU]; exact hP, fun ha => by rw [hU]; exact hHs ha⟩
      exact henv.moved hWm (by rw [hU]; exact hS.1) (fun a g1 g2 => by rw [hU]; exact hS.2.1 a g1 g2)
    have hB : (Cond.methodLink (zq_R o) i q'.1).before args s = true → CallB R s args (zq_R o) i q'.1 q'.2.1 q'.2.2.1 q'.2.2.2.1 (zq_cw q' :: zq_WG) (zq_rm d' h h1) (h1.1.length - h.1.length) (zq_ns h1 - zq_ns h) (q'.2.2.2.2.2.1 - (if q'.2.2.2.2.2.2 = 0 then 0 else 1)) := fun hlk => callB_of _ hts (zq_good hcw) rfl rfl rfl (hts _ f4) hlk ⟨f2.1, f2.2, f5⟩ hR
    have hBN : va_Nw (.methodLinkNest (zq_R o) i q'.1 "RaffleArmy") s → va_CN R s args (zq_R o) i q'.1 "RaffleArmy" q'.2.1 q'.2.2.1 q'.2.2.2.1 (zq_cw q' :: zq_WG) (zq_rm d' h h1) (h1.1.length - h.1.length) (zq_ns h1 - zq_ns h) (q'.2.2.2.2.2.1 - (if q'.2.2.2.2.2.2 = 0 then 0 else 1)) := fun hlk => va_cnB _ hts (zq_good hcw) rfl rfl rfl hlk (hts _ f4) ⟨f2.1, f2.2, f5⟩ hR
    have hlink : (e1.2.2 = 0 ∧ (Cond.methodLink (zq_R o) i q'.1).before args s = true) ∨ (e1.2.2 ≠ 0 ∧ va_Nw (.methodLinkNest (zq_R o) i q'.1 "RaffleArmy") s) := by
      by_cases h00 : e1.2.2 = 0
      · rw [if_pos h00] at hpk
        exact Or.inl ⟨h00, hts _ (zq_in hpk)⟩
      · refine Or.inr ⟨h00, ?_⟩
        have := henv.2.1 _ ho _ (zq_lk he) h00
        rw [hy] at this
        exact this
    have S : CallFix p m c cc nL s args zq_WG (zq_R o) := ⟨hx, hb, hml, hown, hts⟩
    split at hik
    · cases hik
      have h0k : q'.2.2.2.2.2.2 = 0 := hkd
      rw [h0k, if_pos rfl, Nat.sub_zero] at hB hBN
      have hnA : ((st.take q'.2.2.2.2.2.1).reverse.map (zq_tr sz ad)).length = q'.2.2.2.2.2.1 := by simp; omega
      have hstk : (F0 m pc ls (st.map (zq_tr sz ad))).stack = ((st.take q'.2.2.2.2.2.1).reverse.map (zq_tr sz ad)).reverse ++ (st.drop q'.2.2.2.2.2.1).map (zq_tr sz ad) := by
        show st.map (zq_tr sz ad) = _
        rw [← List.map_reverse, List.reverse_reverse, ← List.map_append, List.take_append_drop]
      rcases hlink with ⟨-, hlk⟩ | ⟨-, hlk⟩
      · exact fin _ (va_runS S hM ⟨hB hlk, hts _ (f6 h0k)⟩ ⟨hblind, hpc⟩ rfl hnA hl.1.1 hstk hW (zq_dl hd hn rfl) hfc)
      · exact fin _ (va_runSN S hM ⟨hBN hlk, hts _ (f6 h0k), trivial⟩ ⟨hblind, hpc⟩ rfl hnA hl.1.1 hstk hW (zq_dl hd hn rfl) hfc)
    · cases hik
      have h1k : q'.2.2.2.2.2.2 = 1 := hkd
      rw [h1k, if_neg (by decide)] at hB hBN
      have hpos := f11 (by rw [h1k]; decide)
      rcases hrcv with hbad | hrcv
      · cases hbad
      unfold zq_rcv at hrcv
      split at hrcv
      next a hsa =>
        have hkda := of_decide_eq_true hrcv
        obtain ⟨j, rfl, hj⟩ := zq_kd_at hkda
        obtain ⟨e2, e3⟩ := zq_split hpos hsa
        have e4 : (st.take q'.2.2.2.2.2.1).reverse.map (zq_tr sz ad) = .ref (sz + j) :: (st.take (q'.2.2.2.2.2.1 - 1)).reverse.map (zq_tr sz ad) := by
          rw [e3, List.map_cons, zq_ref_eq]
        rw [e4] at hpc
        have hci := (zq_own14 q' (List.mem_of_getElem? hq')).2 (by rw [h1k]; decide)
        have hrc := va_recv henv.1 hP (zq_cl_get hci) (zq_ws_get hj)
        dsimp only at hrc
        rw [← f3] at hrc
        have hnA : ((st.take (q'.2.2.2.2.2.1 - 1)).reverse.map (zq_tr sz ad)).length = q'.2.2.2.2.2.1 - 1 := by simp; omega
        have hstk : (F0 m pc ls (st.map (zq_tr sz ad))).stack = ((st.take (q'.2.2.2.2.2.1 - 1)).reverse.map (zq_tr sz ad)).reverse ++ .ref (sz + j) :: (st.drop q'.2.2.2.2.2.1).map (zq_tr sz ad) := by
          show st.map (zq_tr sz ad) = _
          rw [← List.map_reverse, List.reverse_reverse]
          conv => lhs; rw [e2]
          rw [List.map_append, List.map_cons, zq_ref_eq]
        rcases hlink with ⟨-, hlk⟩ | ⟨-, hlk⟩
        · exact fin _ (va_runV S hM ⟨hB hlk, hts _ (f7 (by rw [h1k]; decide)), hts _ (f8 h1k)⟩ ⟨hblind, hrc, hpc⟩ rfl hnA hl.1.1 hstk hW (zq_dl hd hn rfl) hfc)
        · exact fin _ (va_runVN S hM ⟨hBN hlk, hts _ (f7 (by rw [h1k]; decide)), hts _ (f8 h1k)⟩ ⟨hblind, hrc, hpc⟩ rfl hnA hl.1.1 hstk hW (zq_dl hd hn rfl) hfc)
      next => cases hrcv
    · cases hik
      have h2k : q'.2.2.2.2.2.2 = 2 := hkd
      rw [h2k, if_neg (by decide)] at hB hBN
      have hpos := f11 (by rw [h2k]; decide)
      rw [(f9 h2k).2] at hB hBN
      rcases hrcv with hbad | hrcv
      · cases hbad
      unfold zq_rcv at hrcv
      split at hrcv
      next a hsa =>
        have hkda := of_decide_eq_true hrcv
        obtain ⟨j, rfl, hj⟩ := zq_kd_at hkda
        obtain ⟨e2, e3⟩ := zq_split hpos hsa
        have e4 : (st.take q'.2.2.2.2.2.1).reverse.map (zq_tr sz ad) = .ref (sz + j) :: (st.take (q'.2.2.2.2.2.1 - 1)).reverse.map (zq_tr sz ad) := by
          rw [e3, List.map_cons, zq_ref_eq]
        rw [e4] at hpc
        have hnA : ((st.take (q'.2.2.2.2.2.1 - 1)).reverse.map (zq_tr sz ad)).length = q'.2.2.2.2.2.1 - 1 := by simp; omega
        have hstk : (F0 m pc ls (st.map (zq_tr sz ad))).stack = ((st.take (q'.2.2.2.2.2.1 - 1)).reverse.map (zq_tr sz ad)).reverse ++ .ref (sz + j) :: (st.drop q'.2.2.2.2.2.1).map (zq_tr sz ad) := by
          show st.map (zq_tr sz ad) = _
          rw [← List.map_reverse, List.reverse_reverse]
          conv => lhs; rw [e2]
          rw [List.map_append, List.map_cons, zq_ref_eq]
        rcases hlink with ⟨-, hlk⟩ | ⟨-, hlk⟩
        · exact fin _ (va_runI S hM ⟨hB hlk, (f9 h2k).1, hts _ (f7 (by rw [h2k]; decide))⟩ ⟨hblind, hpc⟩ rfl hnA hl.1.1 hstk hW (zq_dl hd hn rfl) hfc)
        · exact fin _ (va_runIN S hM ⟨hBN hlk, (f9 h2k).1, hts _ (f7 (by rw [h2k]; decide))⟩ ⟨hblind, hpc⟩ rfl hnA hl.1.1 hstk hW (zq_dl hd hn rfl) hfc)
      next => cases hrcv
    · cases hik
  next => cases hcal

theorem zq_stp_ok0 {al : Bool} (cx : zq_cx dC dI cA sz ad sc p s m args meth c cc nL o ini) (hd : decode cc pc = .ok (ins, len)) (hn : zq_lnk ins len = true) (hg : zq_stp sc al 0 o ini ins pc lv st h = some c') (hl : zq_lr sz ad ls nL lv) (hP : va_P (dC, dI) zq_cl (zq_ws cA sz ad h) H) (hS : va_S (fun q => sz ≤ q) s.heap H locs)
    (hacc : al = true → s.heap.size + cells = sz + h.1.length) (hrc : cells + (c'.2.2.2.1.length - h.1.length) ≤ R.cells) (hrs : slots + (zq_ns c'.2.2.2 - zq_ns h) ≤ R.slots)
    (kk : ∀ H' locs' ls', zq_lr sz ad ls' nL c'.2.1 → va_P (dC, dI) zq_cl (zq_ws cA sz ad c'.2.2.2) H' → va_S (fun q => sz ≤ q) s.heap H' locs' → W p l e R s m args below meth c H' locs' (cells + (c'.2.2.2.1.length - h.1.length)) (slots + (zq_ns c'.2.2.2 - zq_ns h)) Q (F0 m c'.1 ls' (c'.2.2.1.map (zq_tr sz ad)))) : W p l e R s m args below meth c H locs cells slots Q (F0 m pc ls (st.map (zq_tr sz ad))) := by
  have same : c'.2.1 = lv → c'.2.2.2 = h → W p l e R s m args below meth c H locs cells slots Q (F0 m c'.1 ls (c'.2.2.1.map (zq_tr sz ad))) := by
    intro e1 e2
    have k1 := kk H locs ls (by rw [e1]; exact hl) (by rw [e2]; exact hP) hS
    rw [e2, Nat.sub_self, Nat.sub_self] at k1
    exact k1
  have sameF : ∀ H' locs', c'.2.1 = lv → c'.2.2.2.1 = h.1 → va_P (dC, dI) zq_cl (zq_ws cA sz ad c'.2.2.2) H' → va_S (fun q => sz ≤ q) s.heap H' locs' → W p l e R s m args below meth c H' locs' cells slots Q (F0 m c'.1 ls (c'.2.2.1.map (zq_tr sz ad))) := by
    intro H' locs' e1 e2 hP' hS'
    have k1 := kk H' locs' ls (by rw [e1]; exact hl) hP' hS'
    have e3 : zq_ns c'.2.2.2 = zq_ns h := by unfold zq_ns; rw [e2]
    rw [e3, e2, Nat.sub_self, Nat.sub_self] at k1
    exact k1
  have sameL : ∀ ls', zq_lr sz ad ls' nL c'.2.1 → c'.2.2.2 = h → W p l e R s m args below meth c H locs cells slots Q (F0 m c'.1 ls' (c'.2.2.1.map (zq_tr sz ad))) := by
    intro ls' e1 e2
    have k1 := kk H locs ls' e1 (by rw [e2]; exact hP) hS
    rw [e2, Nat.sub_self, Nat.sub_self] at k1
    exact k1
  have new9 : ∀ H' locs', c'.2.1 = lv → va_P (dC, dI) zq_cl (zq_ws cA sz ad c'.2.2.2) H' → va_S (fun q => sz ≤ q) s.heap H' locs' → W p l e R s m args below meth c H' locs' (cells + (c'.2.2.2.1.length - h.1.length)) (slots + (zq_ns c'.2.2.2 - zq_ns h)) Q (F0 m c'.1 ls (c'.2.2.1.map (zq_tr sz ad))) := by
    intro H' locs' e1 hP' hS'
    exact kk H' locs' ls (by rw [e1]; exact hl) hP' hS'
  unfold zq_stp at hg
  split at hg
  all_goals first
    | exact zq_g1_ok cx hd hn hg hl same
    | exact zq_g2_ok cx hd hn hg hl sameL
    | exact zq_g3_ok cx hd hn hg same
    | exact zq_g4_ok cx hd hn hg same
    | exact zq_g5_ok cx hd hn hg same
    | exact zq_g6_ok cx hd hn hg same
    | exact zq_g7_ok cx hd hn hg hP hS sameF
    | exact zq_g8_ok cx hd hn hg hP hS sameF
    | exact zq_g9_ok cx hd hn hg hP hS hacc hrc hrs new9
    | cases hg
end ZG
/-- a frame up to where 'stop' says -/
def zq_fr (sc : zX) (al : Bool) (stop : Nat → Instr → Bool) (ds : Nat) : Nat → Nat → Nat → zC → Option zC
  | 0, _, _, _ => none
  | n + 1, d, k, c => match zq_code k c.1 with
    | none => none
    | some x => if stop c.1 x.1 = true then some c else match zq_stp sc al ds (zq_own k) (zq_ini k) x.1 c.1 c.2.1 c.2.2.1 c.2.2.2 with
      | some c' => zq_fr sc al stop ds n d k c'
      | none => match zq_cal (zq_own k) x.1 c.2.2.1 c.2.2.2 with
        | none => none
        | some y => match d with
          | 0 => none
          | d' + 1 => match zq_run sc al n d' y.1 0 (zq_ent (zq_maxL y.1) y.2.1) [] c.2.2.2 with
            | none => none
            | some r => zq_fr sc al stop ds n (d' + 1) k (c.1 + 3, c.2.1, r.1.toList ++ y.2.2, r.2)
theorem zq_fr_h {sc : zX} {al : Bool} {stop : Nat → Instr → Bool} {ds : Nat} : ∀ (n d k : Nat) (c cF : zC), zq_fr sc al stop ds n d k c = some cF → zq_le c.2.2.2 cF.2.2.2 := by
  intro n
  induction n with
  | zero => intro d k c cF hr; cases hr
  | succ n ih =>
    intro d k c cF hr
    unfold zq_fr at hr
    split at hr
    · cases hr
    · split at hr
      · cases hr; exact ⟨Nat.le_refl _, Nat.le_refl _⟩
      · split at hr
        next c' hc =>
          have h1 := zq_stp_h hc
          have h2 := ih _ _ _ _ hr
          exact ⟨Nat.le_trans h1.1 h2.1, Nat.le_trans h1.2 h2.2⟩
        next =>
          split at hr
          · cases hr
          · split at hr
            · cases hr
            · split at hr
              · cases hr
              next r hr1 =>
                have e1 := zq_run_h _ _ _ _ _ _ _ r.1 r.2 hr1
                have e2 := ih _ _ _ _ hr
                exact ⟨Nat.le_trans e1.1 e2.1, Nat.le_trans e1.2 e2.2⟩
section ZG
variable {dC : Nat → ClassId} {dI : Nat → Nat → Nat} {cA : Nat → ClassId} {sz : Nat} {ad : Nat → Nat} {sc : zX}
variable {p : Program} {l : Launch} {e : Env} {R : Room} {s : State} {m : MethodId} {args : Array Value} {below : List Frame} {meth : Method} {c : Code} {Q : State → Prop}
theorem zq_fr_ok {al : Bool} {stop : Nat → Instr → Bool} {ds : Nat} {cc : ByteArray} {nL : Nat} {k : Nat} (hdec : ∀ pc x, zq_code k pc = some x → decode cc pc = .ok x ∧ zq_lnk x.1 x.2 = true) (cx : zq_cx dC dI cA sz ad sc p s m args meth c cc nL (zq_own k) (zq_ini k)) (hds : ds = 0 ∨ (R.frames = ds ∧ R.locals = 40 * ds)) : ∀ (n d : Nat) (z zF : zC) (H : Heap) (locs : List Loc) (cells slots : Nat) (ls : Array Slot), zq_fr sc al stop ds n d k z = some zF → d ≤ R.frames → 40 * d ≤ R.locals → zq_lr sz ad ls nL z.2.1 → va_P (dC, dI) zq_cl (zq_ws cA sz ad z.2.2.2) H → va_S (fun q => sz ≤ q) s.heap H locs → (al = true → s.heap.size + cells = sz + z.2.2.2.1.length) → cells + (zF.2.2.2.1.length - z.2.2.2.1.length) ≤ R.cells → slots + (zq_ns zF.2.2.2 - zq_ns z.2.2.2) ≤ R.slots →
    (∀ H' locs' ls', zq_lr sz ad ls' nL zF.2.1 → va_P (dC, dI) zq_cl (zq_ws cA sz ad zF.2.2.2) H' → va_S (fun q => sz ≤ q) s.heap H' locs' → W p l e R s m args below meth c H' locs' (cells + (zF.2.2.2.1.length - z.2.2.2.1.length)) (slots + (zq_ns zF.2.2.2 - zq_ns z.2.2.2)) Q (F0 m zF.1 ls' (zF.2.2.1.map (zq_tr sz ad)))) →
    W p l e R s m args below meth c H locs cells slots Q (F0 m z.1 ls (z.2.2.1.map (zq_tr sz ad))) := by
  intro n
  induction n with
  | zero => intro d z zF H locs cells slots ls hr; cases hr
  | succ n ih =>
    intro d z zF H locs cells slots ls hr hRf hRl hl hP hS hacc hrc hrs kk
    unfold zq_fr at hr
    split at hr
    · cases hr
    next x hcode =>
    obtain ⟨hd, hn⟩ := hdec _ _ hcode
    split at hr
    · cases hr
      have k1 := kk H locs ls hl hP hS
      rw [Nat.sub_self, Nat.sub_self] at k1
      exact k1
    · split at hr
      next c1 hc =>
        have h1 := zq_stp_h hc
        have h2 := zq_fr_h _ _ _ _ _ hr
        have go : ∀ H' locs' ls', zq_lr sz ad ls' nL c1.2.1 → va_P (dC, dI) zq_cl (zq_ws cA sz ad c1.2.2.2) H' → va_S (fun q => sz ≤ q) s.heap H' locs' → W p l e R s m args below meth c H' locs' (cells + (c1.2.2.2.1.length - z.2.2.2.1.length)) (slots + (zq_ns c1.2.2.2 - zq_ns z.2.2.2)) Q (F0 m c1.1 ls' (c1.2.2.1.map (zq_tr sz ad))) := by
          intro H' locs' ls' hl' hP' hS'
          have a1 := h1.1; have a2 := h1.2; have a3 := h2.1; have a4 := h2.2
          refine ih d c1 zF H' locs' _ _ ls' hr hRf hRl hl' hP' hS' (fun ha => by have := hacc ha; omega) (by omega) (by omega) (fun H2 locs2 ls2 b1 b2 b3 => ?_)
          have k1 := kk H2 locs2 ls2 b1 b2 b3
          rw [show cells + (c1.2.2.2.1.length - z.2.2.2.1.length) + (zF.2.2.2.1.length - c1.2.2.2.1.length) = cells + (zF.2.2.2.1.length - z.2.2.2.1.length) by omega, show slots + (zq_ns c1.2.2.2 - zq_ns z.2.2.2) + (zq_ns zF.2.2.2 - zq_ns c1.2.2.2) = slots + (zq_ns zF.2.2.2 - zq_ns z.2.2.2) by omega]
          exact k1
        have a1 := h1.1; have a2 := h1.2; have a3 := h2.1; have a4 := h2.2
        rcases hds with hds | hds
        · subst hds
          exact zq_stp_ok0 cx hd hn hc hl hP hS hacc (by omega) (by omega) go
        · exact zq_stp_ok cx hd hn hc hl hP hS hds.1 hds.2 hacc (by omega) (by omega) go
      next =>
        split at hr
        · cases hr
        next y hcal =>
        split at hr
        · cases hr
        next d' =>
        split at hr
        · cases hr
        next r hr1 =>
        have h1 := zq_run_h _ _ _ _ _ _ _ r.1 r.2 hr1
        have h2 := zq_fr_h _ _ _ _ _ hr
        have a1 := h1.1; have a2 := h1.2; have a3 := h2.1; have a4 := h2.2
        dsimp only at a3 a4
        refine zq_callW (k' := y.1) (as := y.2.1) (rest := y.2.2) (v1 := r.1) (h1 := r.2) cx hd hn hcal hr1 hl hP hS hRf hRl hacc ⟨by omega, by omega⟩ (fun H1 locs1 hP1 hS1 => ?_)
        refine ih (d' + 1) (z.1 + 3, z.2.1, r.1.toList ++ y.2.2, r.2) zF H1 locs1 _ _ ls hr hRf hRl hl hP1 hS1 (fun ha => by have := hacc ha; dsimp only; omega) (by dsimp only; omega) (by dsimp only; omega) (fun H2 locs2 ls2 b1 b2 b3 => ?_)
        have k1 := kk H2 locs2 ls2 b1 b2 b3
        dsimp only
        rw [show cells + (r.2.1.length - z.2.2.2.1.length) + (zF.2.2.2.1.length - r.2.1.length) = cells + (zF.2.2.2.1.length - z.2.2.2.1.length) by omega, show slots + (zq_ns r.2 - zq_ns z.2.2.2) + (zq_ns zF.2.2.2 - zq_ns r.2) = slots + (zq_ns zF.2.2.2 - zq_ns z.2.2.2) by omega]
        exact k1
end ZG
