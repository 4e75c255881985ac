/-! one step of the small machine is one step of the machine -/
def zq_ln (ins : Instr) : Option Nat := match ins with
  | .iconst _ | .lconst _ | .aconst_null | .iload_n _ | .lload_n _ | .aload_n _ | .istore_n _ | .lstore_n _ | .astore_n _ => some 1
  | .bipush _ | .iload _ | .lload _ | .aload _ | .istore _ | .lstore _ | .astore _ | .newarray _ => some 2
  | .sipush _ | .ldc2_w _ | .ldc_w _ | .iinc _ _ | .goto _ | .ifnull _ | .if_acmp _ _ | .ifCond _ _ | .if_icmp _ _ => some 3
  | .getfield _ | .putfield _ | .getstatic _ | .new _ | .anewarray _ | .invokestatic _ | .invokespecial _ | .invokevirtual _ => some 3
  | .tableswitch _ _ _ _ => none
  | _ => some 1
def zq_lnk (ins : Instr) (len : Nat) : Bool := match zq_ln ins with
  | some k => k == len
  | none => true
theorem zq_dl {cc : ByteArray} {pc len k : Nat} {ins : Instr} (hd : decode cc pc = .ok (ins, len)) (hn : zq_lnk ins len = true) (h : zq_ln ins = some k) : decode cc pc = .ok (ins, k) := by
  unfold zq_lnk at hn
  rw [h] at hn
  rw [hd]
  rw [beq_iff_eq] at hn
  rw [hn]
theorem zq_lk {α : Type} {l : List (Nat × α)} {k : Nat} {b : α} (h : l.lookup k = some b) : (k, b) ∈ l := by
  induction l with
  | nil => cases h
  | cons x r ih =>
    obtain ⟨a, y⟩ := x
    rw [List.lookup_cons] at h
    split at h
    next he =>
      rw [beq_iff_eq] at he
      cases h
      subst he
      exact List.mem_cons_self
    next => exact List.mem_cons_of_mem _ (ih h)
theorem zq_tgt {pc t : Nat} {off : Int} (h : zq_tg pc off = some t) : (pc : Int) + off = (t : Int) := by
  unfold zq_tg at h
  split at h
  next x hx => cases h; exact hx
  next => cases h
def zq_env (dC : Nat → ClassId) (dI : Nat → Nat → Nat) (cA : Nat → ClassId) (sz : Nat) (ad : Nat → Nat) (sc : zX) (U : State) (H : Heap) : Prop :=
  va_K (dC, dI) zq_cl (zq_tys cA) U ∧
  (∀ o, o < 14 → ∀ e ∈ zq_pps.getD o [], e.2.2.2 ≠ 0 → va_Nw (.methodLinkNest (zq_R o) e.1 (zq_spl e.2.1) "RaffleArmy") U) ∧
  va_Nw (.fieldLinkNest "RaffleArmy$Tape" 60 "RaffleArmy" "WORDS" "[LRaffleArmy$Word;" "RaffleArmy") U ∧
  (va_AO "RaffleArmy$State" U ∧ va_AO "RaffleArmy$Notes" U) ∧
  (∀ i, i < 36 → va_Z "RaffleArmy$Word" (zq_wN.getD i "") "LRaffleArmy$Word;" (.ref (ad i)) (fun q => sz ≤ q) U H) ∧
  va_Z "RaffleArmy" "WORDS" "[LRaffleArmy$Word;" (.ref (ad 36)) (fun q => sz ≤ q) U H ∧
  va_T (.object "RaffleArmy$Word") (ad 36) 36 (fun j => .ref (ad j)) (fun q => sz ≤ q) U H ∧
  va_Ef 36 "RaffleArmy$Word" "code" "J" (fun i => .long (zq_wC.getD i 0)) ad (fun q => sz ≤ q) U H ∧
  va_Ef 36 "RaffleArmy$Word" "use" "I" (fun i => .int (zq_wU.getD i 0)) ad (fun q => sz ≤ q) U H ∧
  va_Ef 36 "RaffleArmy$Word" "which" "I" (fun i => .int (zq_wW.getD i 0)) ad (fun q => sz ≤ q) U H ∧
  (sc.1 ≠ 0 → va_X (ad 37) (sc.1 - 1) sc.2 U H ∧ ad 37 < H.size ∧ ad 37 < sz) ∧
  (∀ i j, i < 38 → j < 38 → ad i = ad j → i = j) ∧ (∀ i, i < 38 → ad i < sz) ∧ sz ≤ H.size
theorem zq_env.moved {dC : Nat → ClassId} {dI : Nat → Nat → Nat} {cA : Nat → ClassId} {sz : Nat} {ad : Nat → Nat} {sc : zX} {u U : State} {H H1 : Heap} (hW : u.WarmedH U.vm) (hz : H.size ≤ H1.size) (hq : ∀ a : Nat, a < H.size → ¬ sz ≤ a → H1[a]? = H[a]?) (h : zq_env dC dI cA sz ad sc u H) : zq_env dC dI cA sz ad sc U H1 := by
  obtain ⟨h1, h2, h3, ⟨h4, h5⟩, h6, h7, h8, h9, h10, h11, h12, h15, h16, h17⟩ := h
  have hvm : u.vm.Alike U.vm := hW.alike
  exact ⟨h1.moved hvm, fun o ho e he hne => va_Nw.warmM hW (h2 o ho e he hne), va_Nw.warmF hW h3, ⟨h4.moved hvm, h5.moved hvm⟩, fun i hi => ((h6 i hi).moved hvm).kept hq, (h7.moved hvm).kept hq, (h8.moved hvm).kept hq, (h9.moved hvm).kept hq, (h10.moved hvm).kept hq, (h11.moved hvm).kept hq, fun hsc => ⟨((h12 hsc).1.moved hvm).kept (hq _ (h12 hsc).2.1 (Nat.not_le.mpr (h12 hsc).2.2)), Nat.lt_of_lt_of_le (h12 hsc).2.1 hz, (h12 hsc).2.2⟩, h15, h16, Nat.le_trans h17 hz⟩
theorem zq_env.calling {dC : Nat → ClassId} {dI : Nat → Nat → Nat} {cA : Nat → ClassId} {sz : Nat} {ad : Nat → Nat} {sc : zX} {U : State} {g : JFrame} {mk : MethodId} {a : Array Value} (h : zq_env dC dI cA sz ad sc U U.heap) : zq_env dC dI cA sz ad sc (U.calling g mk a) (U.calling g mk a).heap := by
  obtain ⟨h1, h2, h3, ⟨h4, h5⟩, h6, h7, h8, h9, h10, h11, h12, h15, h16, h17⟩ := h
  have hvm : U.vm.Alike (U.calling g mk a).vm := Vm.Alike.refl U.vm
  have hq : ∀ a1 : Nat, a1 < U.heap.size → ¬ sz ≤ a1 → (U.calling g mk a).heap[a1]? = U.heap[a1]? := fun _ _ _ => rfl
  exact ⟨h1.moved hvm, fun o ho e he hne => va_Nw.same rfl rfl (h2 o ho e he hne), va_Nw.same rfl rfl h3, ⟨h4.moved hvm, h5.moved hvm⟩, fun i hi => ((h6 i hi).moved hvm).kept hq, (h7.moved hvm).kept hq, (h8.moved hvm).kept hq, (h9.moved hvm).kept hq, (h10.moved hvm).kept hq, (h11.moved hvm).kept hq, fun hsc => ⟨((h12 hsc).1.moved hvm).kept rfl, (h12 hsc).2.1, (h12 hsc).2.2⟩, h15, h16, h17⟩
def zq_cx (dC : Nat → ClassId) (dI : Nat → Nat → Nat) (cA : Nat → ClassId) (sz : Nat) (ad : Nat → Nat) (sc : zX) (p : Program) (s : State) (m : MethodId) (args : Array Value) (meth : Method) (c : Code) (cc : ByteArray) (nL o : Nat) (ini : Bool) : Prop :=
  p.tables.exec = Jvm.exec ∧ c.code = cc ∧ c.maxLocals = nL ∧ s.vm.findClass (zq_R o) = some m.cls ∧ (∀ w ∈ zq_WG, w.before args s = true) ∧ zq_env dC dI cA sz ad sc s s.heap ∧ (ini = true → meth.name = "<init>") ∧ o < 14
section ZG
variable {dC : Nat → ClassId} {dI : Nat → Nat → Nat} {cA : Nat → ClassId} {sz : Nat} {ad : Nat → Nat} {sc : zX}
variable {p : Program} {l : Launch} {e : Env} {R : Room} {s : State} {m : MethodId} {args : Array Value} {below : List Frame} {meth : Method} {c : Code} {H : Heap} {locs : List Loc} {cells slots : Nat} {Q : State → Prop}
variable {cc : ByteArray} {ls : Array Slot} {nL pc o len : Nat} {ini : Bool} {ins : Instr} {lv : List (Option Value)} {st : List Value} {h : zH} {c' : zC}
theorem zq_g1_ok (cx : zq_cx dC dI cA sz ad sc p s m args meth c cc nL o ini) (hd : decode cc pc = .ok (ins, len)) (hn : zq_lnk ins len = true) (hg : zq_g1 o ins pc lv st h = some c') (hl : zq_lr sz ad ls nL lv)
    (kk : c'.2.1 = lv → c'.2.2.2 = h → W p l e R s m args below meth c H locs cells slots Q (F0 m c'.1 ls (c'.2.2.1.map (zq_tr sz ad)))) : W p l e R s m args below meth c H locs cells slots Q (F0 m pc ls (st.map (zq_tr sz ad))) := by
  obtain ⟨hx, hb, hml, hown, hts, henv, hin, ho⟩ := cx
  unfold zq_g1 at hg
  split at hg
  · cases hg
    exact lv_iconst hx hb (zq_dl hd hn rfl) (zq_icof _) (kk rfl rfl)
  · split at hg
    next h8 => cases hg; exact lv_bipush hx hb (zq_dl hd hn rfl) (zq_ic8 h8) (kk rfl rfl)
    next => cases hg
  · split at hg
    next h8 => cases hg; exact lv_sipush hx hb (zq_dl hd hn rfl) (zq_ic16 h8) (kk rfl rfl)
    next => cases hg
  · cases hg
    exact lv_lconst hx hb (zq_dl hd hn rfl) rfl (kk rfl rfl)
  · cases hg
    exact lv_null hx hb (zq_dl hd hn rfl) (kk rfl rfl)
  · split at hg
    next e1 he => cases hg; exact lv_ldc2 hx hb hown (hts _ (zq_in (zq_jpk o ho _ (zq_lk he)))) (zq_dl hd hn rfl) (kk rfl rfl)
    next => cases hg
  · split at hg
    next e1 he => cases hg; exact lv_ldcw hx hb hown (hts _ (zq_in (zq_ipk o ho _ (zq_lk he)))) (zq_dl hd hn rfl) (kk rfl rfl)
    next => cases hg
  · split at hg
    next x hv => cases hg; exact lv_iload hx hb (zq_dl hd hn rfl) (zq_lr_at hl hv) (kk rfl rfl)
    next => cases hg
  · split at hg
    next x hv => cases hg; exact lv_iload_n hx hb (zq_dl hd hn rfl) rfl (zq_lr_at hl hv) (kk rfl rfl)
    next => cases hg
  · split at hg
    next x hv => cases hg; exact lv_lload hx hb (zq_dl hd hn rfl) (zq_lr_at hl hv) (kk rfl rfl)
    next => cases hg
  · split at hg
    next x hv => cases hg; exact lv_lload_n hx hb (zq_dl hd hn rfl) rfl (zq_lr_at hl hv) (kk rfl rfl)
    next => cases hg
  · cases hg
theorem zq_g2_ok (cx : zq_cx dC dI cA sz ad sc p s m args meth c cc nL o ini) (hd : decode cc pc = .ok (ins, len)) (hn : zq_lnk ins len = true) (hg : zq_g2 ins pc lv st h = some c') (hl : zq_lr sz ad ls nL lv)
    (kk : ∀ ls', zq_lr sz ad ls' nL c'.2.1 → c'.2.2.2 = h → W p l e R s m args below meth c H locs cells slots Q (F0 m c'.1 ls' (c'.2.2.1.map (zq_tr sz ad)))) : W p l e R s m args below meth c H locs cells slots Q (F0 m pc ls (st.map (zq_tr sz ad))) := by
  obtain ⟨hx, hb, hml, hown, hts, henv, hin, ho⟩ := cx
  have hlt : ∀ {i : Nat} {v : Value} {l' : List (Option Value)}, zq_s1 lv i v = some l' → i < nL := fun h1 => by rw [← hl.2]; exact zq_s1_lt h1
  have hlt2 : ∀ {i : Nat} {v : Value} {l' : List (Option Value)}, zq_s2 lv i v = some l' → i + 1 < nL := fun h1 => by rw [← hl.2]; exact zq_s2_lt h1
  unfold zq_g2 at hg
  split at hg
  · split at hg
    next x hv => cases hg; exact lv_aload hx hb (zq_dl hd hn rfl) (zq_lr_at hl hv) (kk ls hl rfl)
    next hv => cases hg; exact lv_aloadN hx hb (zq_dl hd hn rfl) (zq_lr_at hl hv) (kk ls hl rfl)
    next => cases hg
  · split at hg
    next x hv => cases hg; exact lv_aload_n hx hb (zq_dl hd hn rfl) rfl (zq_lr_at hl hv) (kk ls hl rfl)
    next hv => cases hg; exact lv_aload_nN hx hb (zq_dl hd hn rfl) rfl (zq_lr_at hl hv) (kk ls hl rfl)
    next => cases hg
  · split at hg
    next x r =>
      obtain ⟨l', hs, rfl⟩ := Option.map_eq_some_iff.mp hg
      exact lv_istore hx hb (zq_dl hd hn rfl) hl.1 (hlt hs) rfl (fun ls' h' => kk ls' (zq_lr_s1 hl hs h') rfl)
    next => cases hg
  · split at hg
    next x r =>
      obtain ⟨l', hs, rfl⟩ := Option.map_eq_some_iff.mp hg
      exact lv_istore_n hx hb (zq_dl hd hn rfl) rfl hl.1 (hlt hs) rfl (fun ls' h' => kk ls' (zq_lr_s1 hl hs h') rfl)
    next => cases hg
  · split at hg
    next x r =>
      obtain ⟨l', hs, rfl⟩ := Option.map_eq_some_iff.mp hg
      exact lv_lstore hx hb (zq_dl hd hn rfl) hl.1 (hlt2 hs) rfl (fun ls' h' => kk ls' (zq_lr_s2 hl hs h') rfl)
    next => cases hg
  · split at hg
    next x r =>
      obtain ⟨l', hs, rfl⟩ := Option.map_eq_some_iff.mp hg
      exact lv_lstore_n hx hb (zq_dl hd hn rfl) rfl hl.1 (hlt2 hs) rfl (fun ls' h' => kk ls' (zq_lr_s2 hl hs h') rfl)
    next => cases hg
  · split at hg
    next x r =>
      obtain ⟨l', hs, rfl⟩ := Option.map_eq_some_iff.mp hg
      exact lv_astore hx hb (zq_dl hd hn rfl) hl.1 (hlt hs) rfl (fun ls' h' => kk ls' (zq_lr_s1 hl hs h') rfl)
    next r =>
      obtain ⟨l', hs, rfl⟩ := Option.map_eq_some_iff.mp hg
      exact lv_astoreN hx hb (zq_dl hd hn rfl) hl.1 (hlt hs) rfl (fun ls' h' => kk ls' (zq_lr_s1 hl hs h') rfl)
    next => cases hg
  · split at hg
    next x r =>
      obtain ⟨l', hs, rfl⟩ := Option.map_eq_some_iff.mp hg
      exact lv_astore_n hx hb (zq_dl hd hn rfl) rfl hl.1 (hlt hs) rfl (fun ls' h' => kk ls' (zq_lr_s1 hl hs h') rfl)
    next r =>
      obtain ⟨l', hs, rfl⟩ := Option.map_eq_some_iff.mp hg
      exact lv_astore_nN hx hb (zq_dl hd hn rfl) rfl hl.1 (hlt hs) rfl (fun ls' h' => kk ls' (zq_lr_s1 hl hs h') rfl)
    next => cases hg
  · split at hg
    next x hv =>
      obtain ⟨l', hs, rfl⟩ := Option.map_eq_some_iff.mp hg
      obtain ⟨k, hk⟩ := List.getElem?_of_mem (zq_pr_mem.mpr ⟨_, hv, rfl⟩)
      exact lv_iinc hx hb (zq_dl hd hn rfl) hl.1 hk (by rw [zq_icof]) (hlt hs) rfl (fun ls' h' => kk ls' (zq_lr_s1 hl hs h') rfl)
    next => cases hg
  · cases hg
theorem zq_g3_ok (cx : zq_cx dC dI cA sz ad sc p s m args meth c cc nL o ini) (hd : decode cc pc = .ok (ins, len)) (hn : zq_lnk ins len = true) (hg : zq_g3 ins pc lv st h = some c')
    (kk : c'.2.1 = lv → c'.2.2.2 = h → W p l e R s m args below meth c H locs cells slots Q (F0 m c'.1 ls (c'.2.2.1.map (zq_tr sz ad)))) : W p l e R s m args below meth c H locs cells slots Q (F0 m pc ls (st.map (zq_tr sz ad))) := by
  obtain ⟨hx, hb, -⟩ := cx
  unfold zq_g3 at hg
  split at hg <;> (try cases hg) <;> split at hg <;> (try cases hg)
  · exact lv_iadd hx hb (zq_dl hd hn rfl) (kk rfl rfl)
  · exact lv_isub hx hb (zq_dl hd hn rfl) (kk rfl rfl)
  · exact lv_imul hx hb (zq_dl hd hn rfl) (kk rfl rfl)
  · exact lv_iand hx hb (zq_dl hd hn rfl) (kk rfl rfl)
  · exact lv_ior hx hb (zq_dl hd hn rfl) (kk rfl rfl)
  · exact lv_ixor hx hb (zq_dl hd hn rfl) (kk rfl rfl)
  · split at hg
    next => cases hg
    next hne => cases hg; exact lv_idiv hx hb (zq_dl hd hn rfl) hne (kk rfl rfl)
  · split at hg
    next => cases hg
    next hne => cases hg; exact lv_irem hx hb (zq_dl hd hn rfl) hne (kk rfl rfl)
  · exact lv_ineg hx hb (zq_dl hd hn rfl) (kk rfl rfl)
  · exact lv_ishl hx hb (zq_dl hd hn rfl) (kk rfl rfl)
  · exact lv_ishr hx hb (zq_dl hd hn rfl) (kk rfl rfl)
theorem zq_g4_ok (cx : zq_cx dC dI cA sz ad sc p s m args meth c cc nL o ini) (hd : decode cc pc = .ok (ins, len)) (hn : zq_lnk ins len = true) (hg : zq_g4 ins pc lv st h = some c')
    (kk : c'.2.1 = lv → c'.2.2.2 = h → W p l e R s m args below meth c H locs cells slots Q (F0 m c'.1 ls (c'.2.2.1.map (zq_tr sz ad)))) : W p l e R s m args below meth c H locs cells slots Q (F0 m pc ls (st.map (zq_tr sz ad))) := by
  obtain ⟨hx, hb, -⟩ := cx
  unfold zq_g4 at hg
  split at hg <;> (try cases hg) <;> split at hg <;> (try cases hg)
  · exact lv_ladd hx hb (zq_dl hd hn rfl) (kk rfl rfl)
  · exact lv_lsub hx hb (zq_dl hd hn rfl) (kk rfl rfl)
  · exact lv_lmul hx hb (zq_dl hd hn rfl) (kk rfl rfl)
  · exact lv_land hx hb (zq_dl hd hn rfl) (kk rfl rfl)
  · exact lv_lor hx hb (zq_dl hd hn rfl) (kk rfl rfl)
  · split at hg
    next => cases hg
    next hne => cases hg; exact lv_ldiv hx hb (zq_dl hd hn rfl) hne (kk rfl rfl)
  · split at hg
    next => cases hg
    next hne => cases hg; exact lv_lrem hx hb (zq_dl hd hn rfl) hne (kk rfl rfl)
  · exact lv_lshl hx hb (zq_dl hd hn rfl) rfl (kk rfl rfl)
  · exact lv_lshr hx hb (zq_dl hd hn rfl) rfl (kk rfl rfl)
  · exact W.lcmp hx hb (zq_dl hd hn rfl) (kk rfl rfl)
end ZG
