/-! a frame of a method that writes no field: it is no constructor's -/
theorem zq_stp_ini {sc : zX} {al : Bool} {ds o pc : Nat} {ini : Bool} {ins : Instr} {lv : List (Option Value)} {st : List Value} {h : zH} (hp : ∀ i, ins ≠ .putfield i) : zq_stp sc al ds o ini ins pc lv st h = zq_stp sc al ds o false ins pc lv st h := by
  cases ins <;> first | rfl | exact absurd rfl (hp _)
section ZG
variable {dC : Nat → ClassId} {dI : Nat → Nat → Nat} {cA : Nat → ClassId} {sz : Nat} {ad : Nat → Nat} {sc : zX}
variable {p : Program} {l : Launch} {e : Env} {R : Room} {s : State} {m : MethodId} {args : Array Value} {below : List Frame} {meth : Method} {c : Code} {Q : State → Prop}
theorem zq_fr_okL {al : Bool} {stop : Nat → Instr → Bool} {ds : Nat} {cc : ByteArray} {nL : Nat} {k : Nat} (hdec : ∀ pc x, zq_code k pc = some x → decode cc pc = .ok x ∧ zq_lnk x.1 x.2 = true) (hnp : ∀ pc x, zq_code k pc = some x → ∀ i, x.1 ≠ .putfield i) (cx : zq_cx dC dI cA sz ad sc p s m args meth c cc nL (zq_own k) false) (hds : ds = 0 ∨ (R.frames = ds ∧ R.locals = 40 * ds)) : ∀ (n d : Nat) (z zF : zC) (H : Heap) (locs : List Loc) (cells slots : Nat) (ls : Array Slot), zq_fr sc al stop ds n d k z = some zF → d ≤ R.frames → 40 * d ≤ R.locals → zq_lr sz ad ls nL z.2.1 → va_P (dC, dI) zq_cl (zq_ws cA sz ad z.2.2.2) H → va_S (fun q => sz ≤ q) s.heap H locs → (al = true → s.heap.size + cells = sz + z.2.2.2.1.length) → cells + (zF.2.2.2.1.length - z.2.2.2.1.length) ≤ R.cells → slots + (zq_ns zF.2.2.2 - zq_ns z.2.2.2) ≤ R.slots →
    (∀ H' locs' ls', zq_lr sz ad ls' nL zF.2.1 → va_P (dC, dI) zq_cl (zq_ws cA sz ad zF.2.2.2) H' → va_S (fun q => sz ≤ q) s.heap H' locs' → W p l e R s m args below meth c H' locs' (cells + (zF.2.2.2.1.length - z.2.2.2.1.length)) (slots + (zq_ns zF.2.2.2 - zq_ns z.2.2.2)) Q (F0 m zF.1 ls' (zF.2.2.1.map (zq_tr sz ad)))) →
    W p l e R s m args below meth c H locs cells slots Q (F0 m z.1 ls (z.2.2.1.map (zq_tr sz ad))) := by
  intro n
  induction n with
  | zero => intro d z zF H locs cells slots ls hr; cases hr
  | succ n ih =>
    intro d z zF H locs cells slots ls hr hRf hRl hl hP hS hacc hrc hrs kk
    unfold zq_fr at hr
    split at hr
    · cases hr
    next x hcode =>
    obtain ⟨hd, hn⟩ := hdec _ _ hcode
    split at hr
    · cases hr
      have k1 := kk H locs ls hl hP hS
      rw [Nat.sub_self, Nat.sub_self] at k1
      exact k1
    · split at hr
      next c1 hc0 =>
        have hc := hc0
        rw [zq_stp_ini (hnp _ _ hcode)] at hc
        have h1 := zq_stp_h hc
        have h2 := zq_fr_h _ _ _ _ _ hr
        have go : ∀ H' locs' ls', zq_lr sz ad ls' nL c1.2.1 → va_P (dC, dI) zq_cl (zq_ws cA sz ad c1.2.2.2) H' → va_S (fun q => sz ≤ q) s.heap H' locs' → W p l e R s m args below meth c H' locs' (cells + (c1.2.2.2.1.length - z.2.2.2.1.length)) (slots + (zq_ns c1.2.2.2 - zq_ns z.2.2.2)) Q (F0 m c1.1 ls' (c1.2.2.1.map (zq_tr sz ad))) := by
          intro H' locs' ls' hl' hP' hS'
          have a1 := h1.1; have a2 := h1.2; have a3 := h2.1; have a4 := h2.2
          refine ih d c1 zF H' locs' _ _ ls' hr hRf hRl hl' hP' hS' (fun ha => by have := hacc ha; omega) (by omega) (by omega) (fun H2 locs2 ls2 b1 b2 b3 => ?_)
          have k1 := kk H2 locs2 ls2 b1 b2 b3
          rw [show cells + (c1.2.2.2.1.length - z.2.2.2.1.length) + (zF.2.2.2.1.length - c1.2.2.2.1.length) = cells + (zF.2.2.2.1.length - z.2.2.2.1.length) by omega, show slots + (zq_ns c1.2.2.2 - zq_ns z.2.2.2) + (zq_ns zF.2.2.2 - zq_ns c1.2.2.2) = slots + (zq_ns zF.2.2.2 - zq_ns z.2.2.2) by omega]
          exact k1
        have a1 := h1.1; have a2 := h1.2; have a3 := h2.1; have a4 := h2.2
        rcases hds with hds | hds
        · subst hds
          exact zq_stp_ok0 cx hd hn hc hl hP hS hacc (by omega) (by omega) go
        · exact zq_stp_ok cx hd hn hc hl hP hS hds.1 hds.2 hacc (by omega) (by omega) go
      next =>
        split at hr
        · cases hr
        next y hcal =>
        split at hr
        · cases hr
        next d' =>
        split at hr
        · cases hr
        next r hr1 =>
        have h1 := zq_run_h _ _ _ _ _ _ _ r.1 r.2 hr1
        have h2 := zq_fr_h _ _ _ _ _ hr
        have a1 := h1.1; have a2 := h1.2; have a3 := h2.1; have a4 := h2.2
        dsimp only at a3 a4
        refine zq_callW (k' := y.1) (as := y.2.1) (rest := y.2.2) (v1 := r.1) (h1 := r.2) cx hd hn hcal hr1 hl hP hS hRf hRl hacc ⟨by omega, by omega⟩ (fun H1 locs1 hP1 hS1 => ?_)
        refine ih (d' + 1) (z.1 + 3, z.2.1, r.1.toList ++ y.2.2, r.2) zF H1 locs1 _ _ ls hr hRf hRl hl hP1 hS1 (fun ha => by have := hacc ha; dsimp only; omega) (by dsimp only; omega) (by dsimp only; omega) (fun H2 locs2 ls2 b1 b2 b3 => ?_)
        have k1 := kk H2 locs2 ls2 b1 b2 b3
        dsimp only
        rw [show cells + (r.2.1.length - z.2.2.2.1.length) + (zF.2.2.2.1.length - r.2.1.length) = cells + (zF.2.2.2.1.length - z.2.2.2.1.length) by omega, show slots + (zq_ns r.2 - zq_ns z.2.2.2) + (zq_ns zF.2.2.2 - zq_ns r.2) = slots + (zq_ns zF.2.2.2 - zq_ns z.2.2.2) by omega]
        exact k1
end ZG
theorem zw_np0 : zq_L265.all (fun q => match q.2.1 with | .putfield _ => false | _ => true) = true := by decide +kernel
theorem zw_llk : zq_L265.all (fun q => zq_lnk q.2.1 q.2.2) = true := by decide +kernel
theorem zw_lcd : zq_cd 265 = zq_L265 := by
  unfold zq_cd
  rw [if_pos rfl]
theorem zw_ldec (pc : Nat) (x : Instr × Nat) (hx : zq_code 265 pc = some x) : decode code pc = .ok x ∧ zq_lnk x.1 x.2 = true := by
  unfold zq_code at hx
  rw [zw_lcd] at hx
  have hm := zq_lk hx
  exact ⟨zq_d265 (pc, x) hm, List.all_eq_true.mp zw_llk (pc, x) hm⟩
theorem zw_np (pc : Nat) (x : Instr × Nat) (hx : zq_code 265 pc = some x) (i : Nat) : x.1 ≠ .putfield i := by
  unfold zq_code at hx
  rw [zw_lcd] at hx
  have hm := List.all_eq_true.mp zw_np0 (pc, x) (zq_lk hx)
  intro e
  dsimp only at hm
  rw [e] at hm
  cases hm
