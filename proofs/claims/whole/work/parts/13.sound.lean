/-! calls, ends, and the theorem: what the small machine runs, the machine runs -/
def zq_BdP (dC : Nat → ClassId) (dI : Nat → Nat → Nat) (cA : Nat → ClassId) (sz : Nat) (ad : Nat → Nat) (sc : zX) (al : Bool) (l : Launch) (n : Nat) : Prop := ∀ (d k : Nat) (q : zq_I) (pc : Nat) (lv : List (Option Value)) (st : List Value) (h : zH) (v : Option Value) (hF h0 : zH) (p : Program) (e : Env) (s : State) (m : MethodId) (args : Array Value) (below : List Frame) (meth : Method) (c : Code) (H : Heap) (locs : List Loc) (cells slots : Nat) (ls : Array Slot),
  zq_MT[k]? = some q → zq_run sc al n d k pc lv st h = some (v, hF) → zq_cx dC dI cA sz ad sc p s m args meth c q.2.1 q.2.2.1 q.2.2.2.2.1 (zq_ini k) → meth.sig.returnType = q.2.2.2.1 → meth.locks = false → zq_lr sz ad ls q.2.2.1 lv → va_P (dC, dI) zq_cl (zq_ws cA sz ad h) H → va_S (fun q => sz ≤ q) s.heap H locs → (al = true → s.heap.size = sz + h0.1.length) → zq_le h0 h → cells = h.1.length - h0.1.length → slots = zq_ns h - zq_ns h0 →
  W p l e (zq_rm d h0 hF) s m args below meth c H locs cells slots (MQ below (zq_Qc dC dI cA sz ad v hF) args s (hF.1.length - h0.1.length) (zq_ns hF - zq_ns h0) (fun q => sz ≤ q)) (F0 m pc ls (st.map (zq_tr sz ad)))
theorem zq_getD {k : Nat} {q : zq_I} (hq : zq_MT[k]? = some q) : zq_MT.getD k zq_m0 = q := by
  rw [List.getD_eq_getElem?_getD, hq]
  rfl
theorem zq_ownk {k : Nat} {q : zq_I} (hq : zq_MT[k]? = some q) : zq_own k = q.2.2.2.2.1 ∧ zq_maxL k = q.2.2.1 ∧ zq_rt k = q.2.2.2.1 ∧ (zq_ini k = true ↔ q.2.2.2.2.2.2 = 2) := by
  have hk : k < 265 := by rw [← zq_MTlen]; exact (List.getElem?_eq_some_iff.mp hq).1
  unfold zq_own zq_maxL zq_rt zq_ini
  rw [zq_getD hq, if_neg (by omega), if_neg (by omega)]
  exact ⟨rfl, rfl, rfl, decide_eq_true_iff⟩
/-- a method's body gives its contract -/
theorem zq_mt_of {dC : Nat → ClassId} {dI : Nat → Nat → Nat} {cA : Nat → ClassId} {sz : Nat} {ad : Nat → Nat} {sc : zX} {al : Bool} {l : Launch} {n : Nat} (hB : zq_BdP dC dI cA sz ad sc al l n) : zq_MtP dC dI cA sz ad sc al l n := by
  intro d k q as h v hF hq hlen hr
  obtain ⟨hcw, pz, hm⟩ := zq_mok hq
  obtain ⟨f1, f2, f3, f4, f5, f6, f7, f8, f9, f10, f11⟩ := zq_mfacts hm
  obtain ⟨k1, k2, k3, k4⟩ := zq_ownk hq
  refine Met.ofW (cc := q.2.1) (maxL := q.2.2.1) (ret := q.2.2.2.1) (ws' := zq_WG) f1 rfl ?_
  intro p e s m args below meth c s₁ B hml hv
  obtain ⟨rfl, henv, hP, hsz⟩ := hv
  have hts := atoms_spec (ws := zq_cw q :: zq_WG) B.pre
  have hown : s.vm.findClass q.1.cls = some m.cls := findClass_of_methodNamed B.named
  have hname : meth.name = q.1.name := (name_of_methodNamed B.named B.method).1
  rw [lg_entry_eq]
  obtain ⟨-, hl⟩ := zq_lr_ent sz ad as q.2.2.1 hlen
  refine hB d k q 0 _ [] h v hF h p e s m _ below meth c s.heap [] 0 0 _ hq hr ⟨B.exec, B.bytes, hml, by rw [← f3]; exact hown, fun w hw => hts w (List.mem_cons_of_mem _ hw), henv, fun hi => by rw [hname]; exact (f9 (k4.mp hi)).1, (zq_own14 q (List.mem_of_getElem? hq)).1⟩ B.returns B.notSynchronized hl hP va_S.rf hsz ⟨Nat.le_refl _, Nat.le_refl _⟩ (Nat.sub_self _).symm (Nat.sub_self _).symm
section ZG
variable {dC : Nat → ClassId} {dI : Nat → Nat → Nat} {cA : Nat → ClassId} {sz : Nat} {ad : Nat → Nat} {sc : zX}
variable {p : Program} {l : Launch} {e : Env} {R : Room} {s : State} {m : MethodId} {args : Array Value} {below : List Frame} {meth : Method} {c : Code} {H : Heap} {locs : List Loc} {cells slots : Nat} {Q : State → Prop}
variable {cc : ByteArray} {ls : Array Slot} {nL pc o len : Nat} {ini : Bool} {ins : Instr} {lv : List (Option Value)} {st : List Value} {h : zH} {c' : zC}
/-- behind a call -/
theorem zq_call {v : Option Value} {h1 : zH} {mc ms : Nat} {st0 rest : List Value} {a : Array Value} (hr : va_Run p l e R s m args below meth c H locs cells slots mc ms (F0 m pc ls st0) rest (zq_Qc dC dI cA sz ad v h1 a) (fun q => sz ≤ q)) (hS : va_S (fun q => sz ≤ q) s.heap H locs)
    (kk : ∀ H1 locs1, va_P (dC, dI) zq_cl (zq_ws cA sz ad h1) H1 → va_S (fun q => sz ≤ q) s.heap H1 locs1 → W p l e R s m args below meth c H1 locs1 (cells + mc) (slots + ms) Q (F0 m (pc + 3) ls ((v.map (zq_tr sz ad)).toList ++ rest))) : W p l e R s m args below meth c H locs cells slots Q (F0 m pc ls st0) := by
  intro T hT X
  obtain ⟨v', st₀, t, T', L, h0, X', hL, e1, e2, ⟨hv, hp, hz, hk⟩, stp⟩ := hr T hT X
  cases hv
  rw [h0] at hz hk
  obtain ⟨t2, a1, b1⟩ := kk T'.heap (locs ++ L) (by rw [e1]; exact hp)
    ⟨Nat.le_trans hS.1 (by rw [e1]; exact hz), fun q g1 g2 => by rw [e1, hk q (Nat.lt_of_lt_of_le g1 hS.1) g2]; exact hS.2.1 q g1 g2, fun q hq => by
      rcases List.mem_append.mp hq with g | g
      · exact hS.2.2 q g
      · exact hL q g⟩ T' rfl X'
  exact ⟨t2, stp t2 a1, b1⟩
theorem zq_low (hP : va_P (dC, dI) zq_cl (zq_ws cA sz ad h) H) (hs : sz ≤ H.size) : sz + h.1.length ≤ H.size := by
  by_cases h0 : h.1.length = 0
  · omega
  · have h1 : h.1.length - 1 < h.1.length := by omega
    have h2 := (hP _ _ (zq_ws_get (List.getElem?_eq_getElem h1))).lt
    have h3 : sz + (h.1.length - 1) < H.size := h2
    omega
theorem zq_split {n : Nat} {x : Value} (hn : 1 ≤ n) (hx : st[n - 1]? = some x) : st = st.take (n - 1) ++ x :: st.drop n ∧ (st.take n).reverse = x :: (st.take (n - 1)).reverse := by
  obtain ⟨hlt, hx2⟩ := List.getElem?_eq_some_iff.mp hx
  have e1 : st.drop (n - 1) = x :: st.drop n := by
    rw [List.drop_eq_getElem_cons hlt, hx2]
    congr 2
    omega
  have e2 : st.take n = st.take (n - 1) ++ [x] := by
    have h3 := List.take_add_one (l := st) (i := n - 1)
    rw [show n - 1 + 1 = n by omega, hx] at h3
    exact h3
  constructor
  · rw [← e1]
    exact (List.take_append_drop (n - 1) st).symm
  · rw [e2]
    simp
theorem zq_body {al : Bool} (n : Nat) : zq_BdP dC dI cA sz ad sc al l n := by
  induction n with
  | zero =>
    intro d k q pc lv st h v hF h0 p e s m args below meth c H locs cells slots ls hq hr
    cases hr
  | succ n ih =>
    intro d k q pc lv st h v hF h0 p e s m args below meth c H locs cells slots ls hq hr cx hret hlocks hl hP hS hsz hle hcells hslots
    have hmono := zq_run_h _ _ _ _ _ _ _ _ _ hr
    obtain ⟨k1, k2, k3, k4⟩ := zq_ownk hq
    unfold zq_run at hr
    split at hr
    · cases hr
    next ins len hcode =>
    obtain ⟨hd, hn⟩ := zq_dec hq hcode
    dsimp only at hn
    rw [k1, k3] at hr
    split at hr
    next c' hc =>
      have h1 := zq_stp_h hc
      have h2 := zq_run_h _ _ _ _ _ _ _ _ _ hr
      refine zq_stp_ok (al := al) (d := d) cx hd hn hc hl hP hS rfl rfl (fun ha => by rw [hsz ha, hcells]; have := hle.1; omega) ?_ ?_ (fun H' locs' ls' hl' hP' hS' => ?_)
      · show cells + _ ≤ hF.1.length - h0.1.length
        have := hle.1; have := h1.1; have := h2.1
        omega
      · show slots + _ ≤ zq_ns hF - zq_ns h0
        have := hle.2; have := h1.2; have := h2.2
        omega
      · exact ih d k q _ _ _ _ v hF h0 p e s m args below meth c H' locs' _ _ ls' hq hr cx hret hlocks hl' hP' hS' hsz ⟨Nat.le_trans hle.1 h1.1, Nat.le_trans hle.2 h1.2⟩ (by have := hle.1; have := h1.1; omega) (by have := hle.2; have := h1.2; omega)
    next hnone =>
      obtain ⟨hx, hb, hml, hown, hts, henv, hin, ho⟩ := id cx
      split at hr
      next v0 hv0 =>
        have hr' : v0 = v ∧ h = hF := by cases hr; exact ⟨rfl, rfl⟩
        obtain ⟨ev, eh⟩ := hr'
        subst ev
        subst eh
        rw [← hcells, ← hslots]
        have hq : ∀ t : State, t.heap = H → s.WarmedH t.vm → zq_Qc dC dI cA sz ad v0 h args s (.returned (v0.map (zq_tr sz ad))) t := fun t ht _ => ⟨rfl, by rw [ht]; exact hP, hS.F ht⟩
        unfold zq_ret at hv0
        split at hv0
        next ty x hrt =>
          split at hv0
          next hfit =>
            cases hv0
            exact W.zret hx hb (hret.trans (by first | assumption | rfl)) (zq_fit_ok hfit).1 hq hS.2.2 (zq_dl hd hn rfl) hlocks
          next => cases hv0
        next x hrt =>
          cases hv0
          exact W.lret hx hb (hret.trans (by first | assumption | rfl)) hq hS.2.2 (zq_dl hd hn rfl) hlocks
        next nm x hrt =>
          cases hv0
          exact W.aret hx hb (hret.trans (by first | assumption | rfl)) (Or.inl ⟨_, rfl⟩) (Or.inr ⟨_, rfl⟩) hq hS.2.2 (zq_dl hd hn rfl) hlocks
        next nm hrt =>
          cases hv0
          exact W.aret hx hb (hret.trans (by first | assumption | rfl)) (Or.inl ⟨_, rfl⟩) (Or.inl rfl) hq hS.2.2 (zq_dl hd hn rfl) hlocks
        next hrt =>
          cases hv0
          exact W.vret hx hb (hret.trans (by first | assumption | rfl)) hq hS.2.2 (zq_dl hd hn rfl) hlocks
        next => cases hv0
      next hnr =>
        split at hr
        · cases hr
        next k' as rest hcal =>
        split at hr
        · cases hr
        next d' =>
        split at hr
        · cases hr
        next v1 h1 hr1 =>
        have hm1 := zq_run_h _ _ _ _ _ _ _ _ _ hr1
        have hm2 := zq_run_h _ _ _ _ _ _ _ _ _ hr
        unfold zq_cal at hcal
        split at hcal
        · cases hcal
        next i kd hik =>
        split at hcal
        · cases hcal
        next e1 he =>
        split at hcal
        · cases hcal
        next q' hq' =>
        split at hcal
        next hcond =>
          obtain ⟨hkd, hlen, hcat, hsls, hrcv⟩ := hcond
          cases hcal
          have hmx : zq_maxL e1.1 = q'.2.2.1 := (zq_ownk hq').2.1
          rw [hmx] at hr1
          have hM : Met l q'.1 (zq_cw q' :: zq_WG) (zq_rm d' h h1) (zq_Pc dC dI cA sz ad sc al _ h) (zq_Qc dC dI cA sz ad v1 h1) (h1.1.length - h.1.length) (zq_ns h1 - zq_ns h) (fun q => sz ≤ q) := zq_mt_of ih d' e1.1 q' _ h v1 h1 hq' hsls hr1
          obtain ⟨hcw, pz, hm⟩ := zq_mok hq'
          obtain ⟨f1, f2, f3, f4, f5, f6, f7, f8, f9, f10, f11⟩ := zq_mfacts hm
          have hy : zq_spl e1.1 = q'.1 := by
            have hk' : e1.1 < 265 := by rw [← zq_MTlen]; exact (List.getElem?_eq_some_iff.mp hq').1
            unfold zq_spl zq_y
            rw [if_neg (by omega), if_neg (by omega), if_neg (by omega), if_neg (by omega), zq_getD hq']
          have hpk := zq_ppk _ ho _ (zq_lk he)
          dsimp only at hpk
          rw [hy] at hpk
          have hR : (zq_rm d' h h1).frames + 1 ≤ (zq_rm (d' + 1) h0 hF).frames ∧ 8 + (q'.2.2.1 + 11) + (zq_rm d' h h1).locals ≤ (zq_rm (d' + 1) h0 hF).locals := by
            refine ⟨Nat.le_refl _, ?_⟩
            show 8 + (q'.2.2.1 + 11) + 40 * d' ≤ 40 * (d' + 1)
            omega
          have hfc : cells + (h1.1.length - h.1.length) ≤ (zq_rm (d' + 1) h0 hF).cells ∧ slots + (zq_ns h1 - zq_ns h) ≤ (zq_rm (d' + 1) h0 hF).slots := by
            have := hle.1; have := hle.2; have := hm1.1; have := hm1.2; have := hm2.1; have := hm2.2
            refine ⟨?_, ?_⟩
            · show _ ≤ hF.1.length - h0.1.length
              omega
            · show _ ≤ zq_ns hF - zq_ns h0
              omega
          have hW : 2 * (F0 m pc ls (st.map (zq_tr sz ad))).monitorRoom + (((st.drop q'.2.2.2.2.2.1).map (zq_tr sz ad)).map fun v => v.category).sum ≤ 8 := lv_room (by rw [zq_cat_tr]; exact hcat)
          have fin : ∀ (a : Array Value), va_Run p l e (zq_rm (d' + 1) h0 hF) s m args below meth c H locs cells slots (h1.1.length - h.1.length) (zq_ns h1 - zq_ns h) (F0 m pc ls (st.map (zq_tr sz ad))) ((st.drop q'.2.2.2.2.2.1).map (zq_tr sz ad)) (zq_Qc dC dI cA sz ad v1 h1 a) (fun q => sz ≤ q) → W p l e (zq_rm (d' + 1) h0 hF) s m args below meth c H locs cells slots (MQ below (zq_Qc dC dI cA sz ad v hF) args s (hF.1.length - h0.1.length) (zq_ns hF - zq_ns h0) (fun q => sz ≤ q)) (F0 m pc ls (st.map (zq_tr sz ad))) := by
            intro a hrun
            refine zq_call hrun hS (fun H1 locs1 hP1 hS1 => ?_)
            have := hle.1; have := hle.2; have := hm1.1; have := hm1.2; have := hm2.1; have := hm2.2
            have k := ih (d' + 1) k q (pc + 3) lv (v1.toList ++ st.drop q'.2.2.2.2.2.1) h1 v hF h0 p e s m args below meth c H1 locs1 (cells + (h1.1.length - h.1.length)) (slots + (zq_ns h1 - zq_ns h)) ls hq hr cx hret hlocks hl hP1 hS1 hsz ⟨by omega, by omega⟩ (by omega) (by omega)
            have e9 : (v1.map (zq_tr sz ad)).toList ++ (st.drop q'.2.2.2.2.2.1).map (zq_tr sz ad) = (v1.toList ++ st.drop q'.2.2.2.2.2.1).map (zq_tr sz ad) := by cases v1 <;> simp
            rw [e9]
            exact k
          refine zq_sizeW (fun hz => ?_)
          have hHs : al = true → H.size = sz + h.1.length := by
            intro ha
            have g1 := hsz ha
            have g2 := zq_low hP (Nat.le_trans henv.2.2.2.2.2.2.2.2.2.2.2.2.2 hS.1)
            have g3 := hle.1
            omega
          have hblind : FrameBlind (zq_Pc dC dI cA sz ad sc al (st.take q'.2.2.2.2.2.1).reverse h) := fun a U g mk ⟨g1, g2, g3, g4⟩ => ⟨g1, g2.calling, g3, g4⟩
          have hpc : ∀ U : State, U.heap = H → s.WarmedH U.vm → zq_Pc dC dI cA sz ad sc al (st.take q'.2.2.2.2.2.1).reverse h ((st.take q'.2.2.2.2.2.1).reverse.map (zq_tr sz ad)).toArray U := by
            intro U hU hWm
            refine ⟨rfl, ?_, by rw [hU]; exact hP, fun ha => by rw [hU]; exact hHs ha⟩
            exact henv.moved hWm (by rw [hU]; exact hS.1) (fun a g1 g2 => by rw [hU]; exact hS.2.1 a g1 g2)
          have hB : (Cond.methodLink (zq_R q.2.2.2.2.1) i q'.1).before args s = true → CallB (zq_rm (d' + 1) h0 hF) s args (zq_R q.2.2.2.2.1) i q'.1 q'.2.1 q'.2.2.1 q'.2.2.2.1 (zq_cw q' :: zq_WG) (zq_rm d' h h1) (h1.1.length - h.1.length) (zq_ns h1 - zq_ns h) (q'.2.2.2.2.2.1 - (if q'.2.2.2.2.2.2 = 0 then 0 else 1)) := fun hlk => callB_of _ hts (zq_good hcw) rfl rfl rfl (hts _ f4) hlk ⟨f2.1, f2.2, f5⟩ hR
          have hBN : va_Nw (.methodLinkNest (zq_R q.2.2.2.2.1) i q'.1 "RaffleArmy") s → va_CN (zq_rm (d' + 1) h0 hF) s args (zq_R q.2.2.2.2.1) i q'.1 "RaffleArmy" q'.2.1 q'.2.2.1 q'.2.2.2.1 (zq_cw q' :: zq_WG) (zq_rm d' h h1) (h1.1.length - h.1.length) (zq_ns h1 - zq_ns h) (q'.2.2.2.2.2.1 - (if q'.2.2.2.2.2.2 = 0 then 0 else 1)) := fun hlk => va_cnB _ hts (zq_good hcw) rfl rfl rfl hlk (hts _ f4) ⟨f2.1, f2.2, f5⟩ hR
          have hlink : (e1.2.2 = 0 ∧ (Cond.methodLink (zq_R q.2.2.2.2.1) i q'.1).before args s = true) ∨ (e1.2.2 ≠ 0 ∧ va_Nw (.methodLinkNest (zq_R q.2.2.2.2.1) i q'.1 "RaffleArmy") s) := by
            by_cases h00 : e1.2.2 = 0
            · rw [if_pos h00] at hpk
              exact Or.inl ⟨h00, hts _ (zq_in hpk)⟩
            · refine Or.inr ⟨h00, ?_⟩
              have := henv.2.1 _ ho _ (zq_lk he) h00
              rw [hy] at this
              exact this
          have S : CallFix p m c q.2.1 q.2.2.1 s args zq_WG (zq_R q.2.2.2.2.1) := ⟨hx, hb, hml, hown, hts⟩
          split at hik
          · cases hik
            have h0k : q'.2.2.2.2.2.2 = 0 := hkd
            rw [h0k, if_pos rfl, Nat.sub_zero] at hB hBN
            have hnA : ((st.take q'.2.2.2.2.2.1).reverse.map (zq_tr sz ad)).length = q'.2.2.2.2.2.1 := by simp; omega
            have hstk : (F0 m pc ls (st.map (zq_tr sz ad))).stack = ((st.take q'.2.2.2.2.2.1).reverse.map (zq_tr sz ad)).reverse ++ (st.drop q'.2.2.2.2.2.1).map (zq_tr sz ad) := by
              show st.map (zq_tr sz ad) = _
              rw [← List.map_reverse, List.reverse_reverse, ← List.map_append, List.take_append_drop]
            rcases hlink with ⟨-, hlk⟩ | ⟨-, hlk⟩
            · exact fin _ (va_runS S hM ⟨hB hlk, hts _ (f6 h0k)⟩ ⟨hblind, hpc⟩ rfl hnA hl.1.1 hstk hW (zq_dl hd hn rfl) hfc)
            · exact fin _ (va_runSN S hM ⟨hBN hlk, hts _ (f6 h0k), trivial⟩ ⟨hblind, hpc⟩ rfl hnA hl.1.1 hstk hW (zq_dl hd hn rfl) hfc)
          · cases hik
            have h1k : q'.2.2.2.2.2.2 = 1 := hkd
            rw [h1k, if_neg (by decide)] at hB hBN
            have hpos := f11 (by rw [h1k]; decide)
            rcases hrcv with hbad | hrcv
            · cases hbad
            unfold zq_rcv at hrcv
            split at hrcv
            next a hsa =>
              have hkda := of_decide_eq_true hrcv
              obtain ⟨j, rfl, hj⟩ := zq_kd_at hkda
              obtain ⟨e2, e3⟩ := zq_split hpos hsa
              have e4 : (st.take q'.2.2.2.2.2.1).reverse.map (zq_tr sz ad) = .ref (sz + j) :: (st.take (q'.2.2.2.2.2.1 - 1)).reverse.map (zq_tr sz ad) := by
                rw [e3, List.map_cons, zq_ref_eq]
              rw [e4] at hpc
              have hci := (zq_own14 q' (List.mem_of_getElem? hq')).2 (by rw [h1k]; decide)
              have hrc := va_recv henv.1 hP (zq_cl_get hci) (zq_ws_get hj)
              dsimp only at hrc
              rw [← f3] at hrc
              have hnA : ((st.take (q'.2.2.2.2.2.1 - 1)).reverse.map (zq_tr sz ad)).length = q'.2.2.2.2.2.1 - 1 := by simp; omega
              have hstk : (F0 m pc ls (st.map (zq_tr sz ad))).stack = ((st.take (q'.2.2.2.2.2.1 - 1)).reverse.map (zq_tr sz ad)).reverse ++ .ref (sz + j) :: (st.drop q'.2.2.2.2.2.1).map (zq_tr sz ad) := by
                show st.map (zq_tr sz ad) = _
                rw [← List.map_reverse, List.reverse_reverse]
                conv => lhs; rw [e2]
                rw [List.map_append, List.map_cons, zq_ref_eq]
              rcases hlink with ⟨-, hlk⟩ | ⟨-, hlk⟩
              · exact fin _ (va_runV S hM ⟨hB hlk, hts _ (f7 (by rw [h1k]; decide)), hts _ (f8 h1k)⟩ ⟨hblind, hrc, hpc⟩ rfl hnA hl.1.1 hstk hW (zq_dl hd hn rfl) hfc)
              · exact fin _ (va_runVN S hM ⟨hBN hlk, hts _ (f7 (by rw [h1k]; decide)), hts _ (f8 h1k)⟩ ⟨hblind, hrc, hpc⟩ rfl hnA hl.1.1 hstk hW (zq_dl hd hn rfl) hfc)
            next => cases hrcv
          · cases hik
            have h2k : q'.2.2.2.2.2.2 = 2 := hkd
            rw [h2k, if_neg (by decide)] at hB hBN
            have hpos := f11 (by rw [h2k]; decide)
            rw [(f9 h2k).2] at hB hBN
            rcases hrcv with hbad | hrcv
            · cases hbad
            unfold zq_rcv at hrcv
            split at hrcv
            next a hsa =>
              have hkda := of_decide_eq_true hrcv
              obtain ⟨j, rfl, hj⟩ := zq_kd_at hkda
              obtain ⟨e2, e3⟩ := zq_split hpos hsa
              have e4 : (st.take q'.2.2.2.2.2.1).reverse.map (zq_tr sz ad) = .ref (sz + j) :: (st.take (q'.2.2.2.2.2.1 - 1)).reverse.map (zq_tr sz ad) := by
                rw [e3, List.map_cons, zq_ref_eq]
              rw [e4] at hpc
              have hnA : ((st.take (q'.2.2.2.2.2.1 - 1)).reverse.map (zq_tr sz ad)).length = q'.2.2.2.2.2.1 - 1 := by simp; omega
              have hstk : (F0 m pc ls (st.map (zq_tr sz ad))).stack = ((st.take (q'.2.2.2.2.2.1 - 1)).reverse.map (zq_tr sz ad)).reverse ++ .ref (sz + j) :: (st.drop q'.2.2.2.2.2.1).map (zq_tr sz ad) := by
                show st.map (zq_tr sz ad) = _
                rw [← List.map_reverse, List.reverse_reverse]
                conv => lhs; rw [e2]
                rw [List.map_append, List.map_cons, zq_ref_eq]
              rcases hlink with ⟨-, hlk⟩ | ⟨-, hlk⟩
              · exact fin _ (va_runI S hM ⟨hB hlk, (f9 h2k).1, hts _ (f7 (by rw [h2k]; decide))⟩ ⟨hblind, hpc⟩ rfl hnA hl.1.1 hstk hW (zq_dl hd hn rfl) hfc)
              · exact fin _ (va_runIN S hM ⟨hBN hlk, (f9 h2k).1, hts _ (f7 (by rw [h2k]; decide))⟩ ⟨hblind, hpc⟩ rfl hnA hl.1.1 hstk hW (zq_dl hd hn rfl) hfc)
            next => cases hrcv
          · cases hik
        next => cases hcal
/-- every method's contract: what the small machine runs, the machine runs -/
theorem zq_met {al : Bool} (n : Nat) : zq_MtP dC dI cA sz ad sc al l n := zq_mt_of (zq_body n)
end ZG
