/-! the claim, out of what the small machine's law does on every script -/
def zp_main : Prop := ∀ (L : Nat) (xs : Nat → Int32), L ≤ 3584 → ∃ n, n ≤ 512 ∧ zl_ok (L + 1, xs) n 0 zc_h
theorem zc_run_eq : zc_run = some (23, zl_lv 0, [], zc_h) ∧ zc_h.1 = zc_sk := by
  have h := zc_ok
  unfold zc_h
  cases hz : zc_run with
  | none => rw [hz] at h; cases h
  | some z =>
    rw [hz] at h
    obtain ⟨h1, h2, h3, h4⟩ := of_decide_eq_true h
    obtain ⟨pc, lv, st, hh⟩ := z
    dsimp only at h1 h2 h3 h4
    subst h1 h2 h3
    exact ⟨rfl, h4⟩
theorem zc_ns : zq_ns (zc_sk, zc_z) ≤ 50000 := by decide +kernel
theorem zc_len : zc_sk.length = 180 := by decide +kernel
section ZG
variable {p : Program} {e : Env} {s : State} {m : MethodId} {below : List Frame} {meth : Method} {c : Code}
def lw_At (p : Program) (s : State) (m : MethodId) (meth : Method) (c : Code) (b L : Nat) (xs : Nat → Int32) : Prop :=
  p.tables.exec = Jvm.exec ∧ c.code = code ∧ meth.sig.returnType = ret ∧ c.maxLocals = 7 ∧ s.vm.findClass R_law = some m.cls ∧ (∀ w ∈ lw_tbl, w.before #[Value.ref b] s = true) ∧ va_X b L xs s s.heap ∧ b < s.heap.size ∧ meth.locks = false ∧ (Jvm.Cond.and given_1 narrow_1).before #[Value.ref b] s = true
theorem whole_start (hmain : zp_main) (l : Launch) (hl : l.stackTraces = false) {b L : Nat} {xs : Nat → Int32} (hL : L ≤ 3584) (C0 : lw_At p s m meth c b L xs) : W p l e room_1 s m #[Value.ref b] below meth c s.heap [] 0 0 (lw_Z below #[Value.ref b] s) (entryFrame m ([Value.ref b] : List Value).toArray 7) := by
  obtain ⟨hx, hb, hr, hml, hown, hts, hX, hbl, hlocks, hgv⟩ := id C0
  obtain ⟨dC, dI, cA, ad, henv, hb37⟩ := zw_env hts hX hbl hgv
  have htg : ∀ w ∈ zq_WG, w.before #[Value.ref b] s = true := fun w hw => hts w (List.mem_filter.mp hw).1
  have cx1 : zq_cx dC dI cA s.heap.size ad (L + 1, xs) p s m #[Value.ref b] meth c code 7 11 false := ⟨hx, hb, hml, hown, htg, henv, fun hi => (by cases hi), by decide⟩
  have henv0 : zq_env dC dI cA s.heap.size ad zc_0 s s.heap := by
    obtain ⟨h1, h2, h3, h4, h6, h7, h8, h9, h10, h11, h12, h15, h16, h17⟩ := henv
    exact ⟨h1, h2, h3, h4, h6, h7, h8, h9, h10, h11, fun h => absurd rfl h, h15, h16, h17⟩
  have cx0 : zq_cx dC dI cA s.heap.size ad zc_0 p s m #[Value.ref b] meth c code 7 (zq_own 265) false := ⟨hx, hb, hml, hown, htg, henv0, fun hi => (by cases hi), by decide⟩
  have hs := flat_of_before _ hgv
  have hA : ∀ a : Nat, a < s.heap.size → ¬ (fun q : Nat => s.heap.size ≤ q) a := fun a h => Nat.not_le.mpr h
  have hxt : zw_xt s.heap.size s s.heap := by
    refine ⟨⟨va_Nw.of rfl (hts _ (zw_B0t _ (by simp [zw_B0]))), va_Nw.of rfl (hts _ (zw_B0t _ (by simp [zw_B0]))), va_Nw.of rfl (hts _ (zw_B0t _ (by simp [zw_B0]))), va_Nw.of rfl (hts _ (zw_B0t _ (by simp [zw_B0])))⟩, ?_, ?_⟩
    · exact vx_Zqof (hts _ (by decide +kernel)) (hts _ (by decide +kernel)) (hs _ (by decide +kernel)) hA
    · exact vx_Zqof (hts _ (by decide +kernel)) (hts _ (by decide +kernel)) (hs _ (by decide +kernel)) hA
  obtain ⟨n, hn, hok⟩ := hmain L xs hL
  obtain ⟨hrun, hsk⟩ := zc_run_eq
  rw [lg_entry_eq]
  obtain ⟨-, hlr⟩ := zq_lr_ent s.heap.size ad [Value.ref 37] 7 (Nat.le_of_ble_eq_true rfl)
  have e37 : List.map (zq_tr s.heap.size ad) [Value.ref 37] = [Value.ref b] := by
    show [Value.ref (ad 37)] = _
    rw [hb37]
  rw [e37] at hlr
  have hns : zq_ns zc_h ≤ 50000 := by
    have : zq_ns zc_h = zq_ns (zc_sk, zc_z) := by unfold zq_ns; rw [hsk]
    rw [this]; exact zc_ns
  have hlen : zc_h.1.length = 180 := by rw [hsk]; exact zc_len
  have hrun2 : zq_fr zc_0 true zc_stop 0 100000 40 265 (0, [some (.ref 37), none, none, none, none, none, none], [], ([], zc_z)) = some (23, zl_lv 0, [], zc_h) := hrun
  have h64 : zq_kd zc_h 64 = some (0, 9) := by unfold zq_kd; rw [hsk]; decide
  clear hrun hsk
  generalize zc_h = hz at hrun2 hok hns hlen h64
  refine zq_fr_okL (al := true) (stop := zc_stop) (ds := 0) (k := 265) zw_ldec zw_np cx0 (Or.inl rfl) 100000 40 (0, [some (.ref 37), none, none, none, none, none, none], [], ([], zc_z)) (23, zl_lv 0, [], hz) s.heap [] 0 0 _ hrun2 (by decide) (by decide) hlr (fun k q h => by simp [zq_ws] at h) va_S.rf (fun _ => rfl) ?_ ?_ (fun H' locs' ls' a1 a2 a3 => ?_)
  · dsimp only; rw [hlen]; decide
  · dsimp only; show 0 + (zq_ns hz - _) ≤ 7293034; omega
  · refine zw_loop (sc := (L + 1, xs)) hl rfl cx1 hxt hr hlocks n 0 hz H' locs' _ _ ls' hok h64 a1 a2 a3 ?_ ?_
    · dsimp only; rw [hlen]; show 0 + (180 - 0) + n ≤ _; omega
    · dsimp only; omega
end ZG
