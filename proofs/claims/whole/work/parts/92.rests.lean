/-! rests, which may throw, and the law's own method that catches it -/
def zw_nse : String := "java/util/NoSuchElementException"
def zw_L0 : List Cond := vx_at0 "RaffleArmy" 312 zw_nse ["java/lang/RuntimeException", "java/lang/Exception"]
def zw_B0 : List Cond := [.declares ⟨"java/lang/RuntimeException", "<init>", "()V"⟩, .declares ⟨"java/lang/Exception", "<init>", "()V"⟩, .declares ⟨"java/lang/Throwable", "<init>", "()V"⟩, .castable zw_nse zw_nse]
theorem zw_L0g : ∀ w ∈ zw_L0.filter goodWord, w ∈ lw_tbl := by decide +kernel
theorem zw_L0b : ∀ w ∈ zw_L0.filter (fun w => !goodWord w), w ∈ zw_B0 := by decide +kernel
theorem zw_B0t : ∀ w ∈ zw_B0, w ∈ lw_tbl := by decide +kernel
theorem zw_L0o : ∀ w ∈ Cond.classLink "RaffleArmy" 310 zw_nse :: Cond.initialized zw_nse :: zw_L0, vx_ot w = true := by decide +kernel
theorem zw_two : (Cond.classLink "RaffleArmy" 310 zw_nse) ∈ zq_WG ∧ (Cond.initialized zw_nse) ∈ zq_WG ∧ (Cond.classLink "RaffleArmyLaw" 13 zw_nse) ∈ zq_WG := by decide +kernel
/-- what a throw needs: carried -/
def zw_xt (sz : Nat) (U : State) (H : Heap) : Prop := (va_Nw (.declares ⟨"java/lang/RuntimeException", "<init>", "()V"⟩) U ∧ va_Nw (.declares ⟨"java/lang/Exception", "<init>", "()V"⟩) U ∧ va_Nw (.declares ⟨"java/lang/Throwable", "<init>", "()V"⟩) U ∧ va_Nw (.castable zw_nse zw_nse) U) ∧ vx_Zq Bundle.tN "UNASSIGNED_STACK" Bundle.steD (fun q => sz ≤ q) U H ∧ vx_Zq Bundle.tN "SUPPRESSED_SENTINEL" Bundle.listD (fun q => sz ≤ q) U H
theorem zw_xt.moved {sz : Nat} {u U : State} {H H1 : Heap} (hW : u.WarmedH U.vm) (hq : ∀ a : Nat, a < H.size → ¬ sz ≤ a → H1[a]? = H[a]?) (h : zw_xt sz u H) : zw_xt sz U H1 := by
  obtain ⟨⟨h1, h2, h3, h4⟩, h5, h6⟩ := h
  exact ⟨⟨va_Nw.warmD hW h1, va_Nw.warmD hW h2, va_Nw.warmD hW h3, va_Nw.warmC hW h4⟩, (vx_Zq.moved hW.alike h5).kept hq, (vx_Zq.moved hW.alike h6).kept hq⟩
theorem zw_xt.calling {sz : Nat} {U : State} {g : JFrame} {mk : MethodId} {a : Array Value} (h : zw_xt sz U U.heap) : zw_xt sz (U.calling g mk a) (U.calling g mk a).heap := by
  obtain ⟨⟨h1, h2, h3, h4⟩, h5, h6⟩ := h
  have hvm : U.vm.Alike (U.calling g mk a).vm := Vm.Alike.refl U.vm
  exact ⟨⟨va_Nw.same rfl rfl h1, va_Nw.same rfl rfl h2, va_Nw.same rfl rfl h3, va_Nw.same rfl rfl h4⟩, (vx_Zq.moved hvm h5).kept (fun _ _ _ => rfl), (vx_Zq.moved hvm h6).kept (fun _ _ _ => rfl)⟩
theorem zw_m142 : zq_MT[142]? = some zq_m142 := rfl
def zw_rr : Room := { frames := 10, cells := 1, slots := 6, locals := 400 }
def zw_Pr (dC : Nat → ClassId) (dI : Nat → Nat → Nat) (cA : Nat → ClassId) (sz : Nat) (ad : Nat → Nat) (sc : zX) (as : List Value) (h : zH) : Array Value → State → Prop := va_Pc (as.map (zq_tr sz ad)) (fun U => zq_env dC dI cA sz ad sc U U.heap ∧ zw_xt sz U U.heap ∧ va_P (dC, dI) zq_cl (zq_ws cA sz ad h) U.heap)
section ZW
variable {dC : Nat → ClassId} {dI : Nat → Nat → Nat} {cA : Nat → ClassId} {sz : Nat} {ad : Nat → Nat} {sc : zX} {l : Launch}
theorem zw_blind {as : List Value} {h : zH} : FrameBlind (zw_Pr dC dI cA sz ad sc as h) := fun a U g mk ⟨g1, g2, g3, g4⟩ => ⟨g1, g2.calling, g3.calling, g4⟩
theorem zw_rests (hl : l.stackTraces = false) {x : Nat} {a b u3 : Int32} {h h1 : zH} {ro : Option Int32} (hf : zx_rests sc x a b u3 h = some (ro, h1)) : vx_Met l zq_m142.1 (zq_cw zq_m142 :: zq_WG) zw_rr (zw_Pr dC dI cA sz ad sc [.ref x, .int a, .int b, .int u3] h)
    (va_Qi (S := Unit) (fun r _ => ro = some r) (fun _ t => va_P (dC, dI) zq_cl (zq_ws cA sz ad h1) t.heap) (fun q => sz ≤ q)) (vx_X (S := Unit) (fun _ => ro = none) (fun E _ t => E = zw_nse ∧ va_P (dC, dI) zq_cl (zq_ws cA sz ad h1) t.heap) (fun q => sz ≤ q)) 1 6 (fun q => sz ≤ q) := by
  obtain ⟨hcw, pz, hm⟩ := zq_mok zw_m142
  obtain ⟨f1, f2, f3, f4, f5, f6, f7, f8, f9, f10, f11⟩ := zq_mfacts hm
  refine vx_ofW (cc := zq_m142.2.1) (maxL := 8) (ret := some .int) (ws' := zq_WG) f1 rfl ?_
  intro p e s m args below meth c s₁ B hml hex hv
  obtain ⟨rfl, henv, hxt, hP⟩ := hv
  have hts := atoms_spec (ws := zq_cw zq_m142 :: zq_WG) B.pre
  have hts' : ∀ w ∈ zq_WG, w.before ([Value.ref x, .int a, .int b, .int u3].map (zq_tr sz ad)).toArray s = true := fun w hw => hts w (List.mem_cons_of_mem _ hw)
  have hown : s.vm.findClass "RaffleArmy" = some m.cls := findClass_of_methodNamed B.named
  have hn0 : zq_ini 142 = false := rfl
  have cx : zq_cx dC dI cA sz ad sc p s m ([Value.ref x, .int a, .int b, .int u3].map (zq_tr sz ad)).toArray meth c zq_m142.2.1 8 (zq_own 142) (zq_ini 142) := ⟨B.exec, B.bytes, hml, hown, hts', henv, fun hi => (by rw [hn0] at hi; cases hi), (by decide)⟩
  rw [lg_entry_eq]
  obtain ⟨-, hlr⟩ := zq_lr_ent sz ad [Value.ref x, .int a, .int b, .int u3] 8 (Nat.le_of_ble_eq_true rfl)
  obtain ⟨n, cF, hfr, hΦ⟩ := zx_rests_ok sc 9 (by decide) hf
  refine zq_fr_ok (al := false) (stop := zy_sp) (ds := 0) (k := 142) (fun pc x hx => zq_dec zw_m142 hx) cx (Or.inl rfl) n 10 _ cF s.heap [] 0 0 _ hfr (by decide) (by decide) hlr hP va_S.rf (fun h => by cases h) ?_ ?_ (fun H' locs' ls' hl' hP' hS' => ?_)
  · rw [zq_fr_k _ _ _ _ _ hfr]
    simp [zw_rr, headSpec]
  · unfold zq_ns
    rw [zq_fr_k _ _ _ _ _ hfr]
    simp [zw_rr, headSpec]
  have hk := zq_fr_k _ _ _ _ _ hfr
  have hk2 : zq_ns cF.2.2.2 = zq_ns h := by unfold zq_ns; rw [hk]
  dsimp only at hk
  rw [hk, hk2, Nat.sub_self, Nat.sub_self]
  obtain ⟨hh, hm2⟩ := hΦ
  rw [hh] at hP'
  cases ro with
  | some r =>
    obtain ⟨e1, e2⟩ := hm2
    obtain ⟨hd, hn⟩ := zq_dec zw_m142 e2
    rw [e1]
    refine W.widen (k := 1) (n := 6) (by decide) (by decide) ?_
    refine vx_ret ?_
    exact W.zret (v := r) B.exec B.bytes B.returns rfl (fun t ht _ => ⟨⟨r, (), rfl, rfl, (by show va_P _ _ _ t.heap; rw [ht]; exact hP')⟩, hS'.F ht⟩) hS'.2.2 hd B.notSynchronized
  | none =>
    obtain ⟨e1, e2⟩ := hm2
    rw [e1]
    have hat : ∀ w ∈ zw_L0, w.before ([Value.ref x, .int a, .int b, .int u3].map (zq_tr sz ad)).toArray s = true := by
      refine vx_hat (fun w hw => hts' w (List.mem_filter.mpr ⟨zw_L0g w hw, (List.mem_filter.mp hw).2⟩)) zw_L0b ?_
      obtain ⟨⟨x1, x2, x3, x4⟩, -⟩ := hxt
      exact vx_c (va_Nw.use rfl x1) (vx_c (va_Nw.use rfl x2) (vx_c (va_Nw.use rfl x3) (vx_c (va_Nw.use rfl x4) vx_n)))
    have go : ∀ pc, zq_code 142 pc = some (.new 310, 3) → zq_code 142 (pc + 3) = some (.dup, 1) → zq_code 142 (pc + 4) = some (.invokespecial 312, 3) → zq_code 142 (pc + 7) = some (.athrow, 1) → W p l e (headSpec (zq_cw zq_m142 :: zq_WG) zw_rr).room s m ([Value.ref x, .int a, .int b, .int u3].map (zq_tr sz ad)).toArray below meth c H' locs' (0 + 0) (0 + 0) (vx_MQ below (va_Qi (S := Unit) (fun r _ => (none : Option Int32) = some r) (fun _ t => va_P (dC, dI) zq_cl (zq_ws cA sz ad h1) t.heap) (fun q => sz ≤ q)) (vx_X (S := Unit) (fun _ => (none : Option Int32) = none) (fun E _ t => E = zw_nse ∧ va_P (dC, dI) zq_cl (zq_ws cA sz ad h1) t.heap) (fun q => sz ≤ q)) ([Value.ref x, .int a, .int b, .int u3].map (zq_tr sz ad)).toArray s 1 6 (fun q => sz ≤ q)) (F0 m pc ls' (List.map (zq_tr sz ad) [])) := by
      intro pc d0 d3 d4 d7
      refine vx_throw0 (own := "RaffleArmy") (cls := zw_nse) (names := ["java/lang/RuntimeException", "java/lang/Exception"]) (ik := 310) (ic := 312) (A := fun q => sz ≤ q) B.exec B.bytes hl hown (by decide) (by decide) (hts' _ zw_two.1) (hts' _ zw_two.2.1) hat zw_L0o hxt.2.1 hxt.2.2 hS' (hl'.1.1.trans hml.symm) (zq_dec zw_m142 d0).1 (zq_dec zw_m142 d3).1 (zq_dec zw_m142 d4).1 (zq_dec zw_m142 d7).1 (fun x hx => absurd (hex x hx) id) (by decide) (Nat.le_of_ble_eq_true rfl) (by decide) (by decide) B.notSynchronized ?_ hS'.2.2 (by decide) (by decide)
      intro t hal hsz hkeep
      refine ⟨(), rfl, ⟨rfl, ?_⟩, ?_⟩
      · exact hP'.kept (fun k q hq => hkeep q.1 (vx_lt hP' hq))
      · refine ⟨Nat.le_trans hS'.1 hsz, fun q h1 h2 => ?_⟩
        rw [hkeep q (Nat.lt_of_lt_of_le h1 hS'.1)]
        exact hS'.2.1 q h1 h2
    rcases e2 with e2 | e2
    · rw [e2]; exact go 27 rfl rfl rfl rfl
    · rw [e2]; exact go 146 rfl rfl rfl rfl
end ZW
