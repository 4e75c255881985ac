/-! rules by which methods are walked in the small machine, and the words of their answers -/
def zo_gI (h : zH) (ci o k : Nat) : Option Int32 := if zq_kd h o = some (0, ci) then some (h.2.1 o k) else none
def zo_gL (h : zH) (ci o k : Nat) : Option Int64 := if zq_kd h o = some (0, ci) then some (h.2.2.1 o k) else none
def zo_gR (h : zH) (ci o k : Nat) : Option Nat := if zq_kd h o = some (0, ci) then h.2.2.2 o k else none
def zo_gQ (h : zH) (ci o k : Nat) : Option (Option Nat) := if zq_kd h o = some (0, ci) then some (h.2.2.2 o k) else none
def zo_pI (h : zH) (ci o k : Nat) (v : Int32) : Option zH := if zq_kd h o = some (0, ci) then some (h.1, zq_sI h.2 o k v) else none
def zo_pB (h : zH) (ci o k : Nat) (v : Int32) : Option zH := if zq_kd h o = some (0, ci) ∧ zq_fit (zq_ty ci k) v = true then some (h.1, zq_sI h.2 o k v) else none
def zo_pL (h : zH) (ci o k : Nat) (v : Int64) : Option zH := if zq_kd h o = some (0, ci) then some (h.1, zq_sL h.2 o k v) else none
def zo_pR (h : zH) (ci o k : Nat) (v : Option Nat) : Option zH := if zq_kd h o = some (0, ci) then some (h.1, zq_sR h.2 o k v) else none
def zo_wU (a : Nat) : Option Int32 := if a < 36 then some (zq_wU.getD a 0) else none
def zo_wW (a : Nat) : Option Int32 := if a < 36 then some (zq_wW.getD a 0) else none
def zo_wC (a : Nat) : Option Int64 := if a < 36 then some (zq_wC.getD a 0) else none
def zo_rdR (h : zH) (a : Nat) (i : Int32) : Option Nat := (zq_rdR h a i).join
def zo_dv (x y : Int32) : Option Int32 := if y = 0 then none else some (x / y)
def zo_rm (x y : Int32) : Option Int32 := if y = 0 then none else some (x - x / y * y)
def zo_dvL (x y : Int64) : Option Int64 := if y = 0 then none else some (x / y)
def zo_rmL (x y : Int64) : Option Int64 := if y = 0 then none else some (x - x / y * y)
/-- an answer of a boolean or char method -/
def zo_rb (v : Int32) (h : zH) : Option (Int32 × zH) := if v = 0 ∨ v = 1 then some (v, h) else none
def zo_rc (v : Int32) (h : zH) : Option (Int32 × zH) := if 0 ≤ v ∧ v ≤ 65535 then some (v, h) else none
/-- what goes on behind a call -/
def zo_c {α β : Type} (x : Option (α × zH)) (f : α → zH → Option β) : Option β := match x with
  | none => none
  | some r => f r.1 r.2
def zo_v {α β : Type} (h : zH) (a ci : Nat) (x : Option (α × zH)) (f : α → zH → Option β) : Option β := if zq_kd h a = some (0, ci) then zo_c x f else none
def zo_b {α β : Type} (x : Option α) (f : α → Option β) : Option β := match x with
  | none => none
  | some r => f r
def zo_l {α β : Type} (x : α) (f : α → β) : β := f x
def zo_F : Nat := 100000
theorem zo_c_s {α β : Type} {x : Option (α × zH)} {f : α → zH → Option β} {o : β} (h : zo_c x f = some o) : ∃ a h', x = some (a, h') ∧ f a h' = some o := by
  cases x with
  | none => cases h
  | some r => exact ⟨r.1, r.2, rfl, h⟩
theorem zo_v_s {α β : Type} {h : zH} {a ci : Nat} {x : Option (α × zH)} {f : α → zH → Option β} {o : β} (hh : zo_v h a ci x f = some o) : zq_kd h a = some (0, ci) ∧ ∃ a h', x = some (a, h') ∧ f a h' = some o := by
  unfold zo_v at hh
  split at hh
  next hk => exact ⟨hk, zo_c_s hh⟩
  next => cases hh
theorem zo_b_s {α β : Type} {x : Option α} {f : α → Option β} {o : β} (h : zo_b x f = some o) : ∃ a, x = some a ∧ f a = some o := by
  cases x with
  | none => cases h
  | some r => exact ⟨r, rfl, h⟩
theorem zo_t {α : Type} {c : Prop} [Decidable c] {a b o : α} (h : (if c then a else b) = o) (hc : c) : a = o := by rw [if_pos hc] at h; exact h
theorem zo_f {α : Type} {c : Prop} [Decidable c] {a b o : α} (h : (if c then a else b) = o) (hc : ¬ c) : b = o := by rw [if_neg hc] at h; exact h
theorem zo_lt {α β : Type} {c : Prop} [Decidable c] {a b : α} {f : α → β} {o : β} (h : zo_l (if c then a else b) f = o) (hc : c) : zo_l a f = o := by rw [if_pos hc] at h; exact h
theorem zo_lf {α β : Type} {c : Prop} [Decidable c] {a b : α} {f : α → β} {o : β} (h : zo_l (if c then a else b) f = o) (hc : ¬ c) : zo_l b f = o := by rw [if_neg hc] at h; exact h
section ZW
variable {sc : zX} {d k pc : Nat} {lv : List (Option Value)} {st : List Value} {h : zH} {o : Option Value × zH}
theorem zr_if {x : Instr × Nat} (c : Prop) [Decidable c] (t e : Nat) {st' : List Value} (hc : zq_code k pc = some x) (hs : zq_stp sc false d (zq_own k) (zq_ini k) x.1 pc lv st h = some (if c then t else e, lv, st', h)) (kt : c → zq_wp sc d k t lv st' h o) (kf : ¬ c → zq_wp sc d k e lv st' h o) : zq_wp sc d k pc lv st h o := by
  refine zq_w1 hc hs ?_
  show zq_wp sc d k (if c then t else e) lv st' h o
  by_cases hcc : c
  · rw [if_pos hcc]; exact kt hcc
  · rw [if_neg hcc]; exact kf hcc
theorem zr_op {α : Type} {x : Instr × Nat} {op : Option α} (g : α → zC) (hc : zq_code k pc = some x) (hs : zq_stp sc false d (zq_own k) (zq_ini k) x.1 pc lv st h = op.map g) {v : α} (hv : op = some v) (kk : zq_wp sc d k (g v).1 (g v).2.1 (g v).2.2.1 (g v).2.2.2 o) : zq_wp sc d k pc lv st h o := zq_w1 hc (by rw [hs, hv]; rfl) kk
theorem zr_fld {i ci kf pz a : Nat} {v : Value} (hc : zq_code k pc = some (.getfield i, 3)) (hf : (zq_fps.getD (zq_own k) []).lookup i = some (ci, kf, pz)) (hci : ci < 11) (hv : zq_gf h ci a kf = some v) (kk : zq_wp sc d k (pc + 3) lv (v :: st) h o) : zq_wp sc d k pc lv (.ref a :: st) h o := by
  refine zq_w1 (c := (pc + 3, lv, v :: st, h)) hc ?_ kk
  show zq_g7 (zq_own k) (zq_ini k) (.getfield i) pc lv (.ref a :: st) h = _
  unfold zq_g7
  simp only [hf]
  rw [if_pos hci, hv]
  rfl
theorem zr_gI {i ci kf pz a : Nat} {v : Int32} (hc : zq_code k pc = some (.getfield i, 3)) (hf : (zq_fps.getD (zq_own k) []).lookup i = some (ci, kf, pz)) (hci : ci < 11) (ht : zq_tag (zq_ty ci kf) = 0) (hv : zo_gI h ci a kf = some v) (kk : zq_wp sc d k (pc + 3) lv (.int v :: st) h o) : zq_wp sc d k pc lv (.ref a :: st) h o := by
  refine zr_fld hc hf hci ?_ kk
  unfold zo_gI at hv
  unfold zq_gf
  split at hv
  next hk => rw [if_pos hk, ht]; cases hv; rfl
  next => cases hv
theorem zr_gL {i ci kf pz a : Nat} {v : Int64} (hc : zq_code k pc = some (.getfield i, 3)) (hf : (zq_fps.getD (zq_own k) []).lookup i = some (ci, kf, pz)) (hci : ci < 11) (ht : zq_tag (zq_ty ci kf) = 1) (hv : zo_gL h ci a kf = some v) (kk : zq_wp sc d k (pc + 3) lv (.long v :: st) h o) : zq_wp sc d k pc lv (.ref a :: st) h o := by
  refine zr_fld hc hf hci ?_ kk
  unfold zo_gL at hv
  unfold zq_gf
  split at hv
  next hk => rw [if_pos hk, ht]; cases hv; rfl
  next => cases hv
theorem zr_gR {i ci kf pz a : Nat} {v : Nat} (hc : zq_code k pc = some (.getfield i, 3)) (hf : (zq_fps.getD (zq_own k) []).lookup i = some (ci, kf, pz)) (hci : ci < 11) (ht : zq_tag (zq_ty ci kf) = 2) (hv : zo_gR h ci a kf = some v) (kk : zq_wp sc d k (pc + 3) lv (.ref v :: st) h o) : zq_wp sc d k pc lv (.ref a :: st) h o := by
  refine zr_fld hc hf hci ?_ kk
  unfold zo_gR at hv
  unfold zq_gf
  split at hv
  next hk => rw [if_pos hk, ht]; show some (va_rf (h.2.2.2 a kf)) = _; rw [hv]; rfl
  next => cases hv
theorem zr_gQ {i ci kf pz a : Nat} {v : Option Nat} (hc : zq_code k pc = some (.getfield i, 3)) (hf : (zq_fps.getD (zq_own k) []).lookup i = some (ci, kf, pz)) (hci : ci < 11) (ht : zq_tag (zq_ty ci kf) = 2) (hv : zo_gQ h ci a kf = some v) (kk : zq_wp sc d k (pc + 3) lv (va_rf v :: st) h o) : zq_wp sc d k pc lv (.ref a :: st) h o := by
  refine zr_fld hc hf hci ?_ kk
  unfold zo_gQ at hv
  unfold zq_gf
  split at hv
  next hk => rw [if_pos hk, ht]; cases hv; rfl
  next => cases hv
theorem zr_wU {i pz a : Nat} {v : Int32} (hc : zq_code k pc = some (.getfield i, 3)) (hf : (zq_fps.getD (zq_own k) []).lookup i = some (20, 1, pz)) (hv : zo_wU a = some v) (kk : zq_wp sc d k (pc + 3) lv (.int v :: st) h o) : zq_wp sc d k pc lv (.ref a :: st) h o := by
  refine zq_w1 (c := (pc + 3, lv, .int v :: st, h)) hc ?_ kk
  show zq_g7 (zq_own k) (zq_ini k) (.getfield i) pc lv (.ref a :: st) h = _
  unfold zo_wU at hv
  unfold zq_g7
  simp only [hf]
  split at hv
  next ha => rw [if_neg (by decide), if_pos ⟨trivial, ha⟩]; cases hv; rfl
  next => cases hv
theorem zr_wW {i pz a : Nat} {v : Int32} (hc : zq_code k pc = some (.getfield i, 3)) (hf : (zq_fps.getD (zq_own k) []).lookup i = some (20, 2, pz)) (hv : zo_wW a = some v) (kk : zq_wp sc d k (pc + 3) lv (.int v :: st) h o) : zq_wp sc d k pc lv (.ref a :: st) h o := by
  refine zq_w1 (c := (pc + 3, lv, .int v :: st, h)) hc ?_ kk
  show zq_g7 (zq_own k) (zq_ini k) (.getfield i) pc lv (.ref a :: st) h = _
  unfold zo_wW at hv
  unfold zq_g7
  simp only [hf]
  split at hv
  next ha => rw [if_neg (by decide), if_pos ⟨trivial, ha⟩]; cases hv; rfl
  next => cases hv
theorem zr_wC {i pz a : Nat} {v : Int64} (hc : zq_code k pc = some (.getfield i, 3)) (hf : (zq_fps.getD (zq_own k) []).lookup i = some (20, 0, pz)) (hv : zo_wC a = some v) (kk : zq_wp sc d k (pc + 3) lv (.long v :: st) h o) : zq_wp sc d k pc lv (.ref a :: st) h o := by
  refine zq_w1 (c := (pc + 3, lv, .long v :: st, h)) hc ?_ kk
  show zq_g7 (zq_own k) (zq_ini k) (.getfield i) pc lv (.ref a :: st) h = _
  unfold zo_wC at hv
  unfold zq_g7
  simp only [hf]
  split at hv
  next ha => rw [if_neg (by decide), if_pos ⟨trivial, ha⟩]; cases hv; rfl
  next => cases hv
theorem zr_put {i ci kf pz a : Nat} {v : Value} {h' : zH} (hc : zq_code k pc = some (.putfield i, 3)) (hf : (zq_fps.getD (zq_own k) []).lookup i = some (ci, kf, pz)) (hci : ci < 11) (hfin : (zq_Tf ci kf).2.2.2 = false) (hv : zq_pf h ci a kf v = some h') (kk : zq_wp sc d k (pc + 3) lv st h' o) : zq_wp sc d k pc lv (v :: .ref a :: st) h o := by
  refine zq_w1 (c := (pc + 3, lv, st, h')) hc ?_ kk
  show zq_g7 (zq_own k) (zq_ini k) (.putfield i) pc lv (v :: .ref a :: st) h = _
  unfold zq_g7
  simp only [hf]
  rw [if_pos ⟨hci, Or.inl hfin⟩, hv]
  rfl
theorem zr_pI {i ci kf pz a : Nat} {v : Int32} {h' : zH} (hc : zq_code k pc = some (.putfield i, 3)) (hf : (zq_fps.getD (zq_own k) []).lookup i = some (ci, kf, pz)) (hci : ci < 11) (hfin : (zq_Tf ci kf).2.2.2 = false) (ht : zq_ty ci kf = .int) (hv : zo_pI h ci a kf v = some h') (kk : zq_wp sc d k (pc + 3) lv st h' o) : zq_wp sc d k pc lv (.int v :: .ref a :: st) h o := by
  refine zr_put hc hf hci hfin ?_ kk
  unfold zo_pI at hv
  unfold zq_pf
  split at hv
  next hk => rw [if_pos hk, ht]; exact hv
  next => cases hv
theorem zr_pB {i ci kf pz a : Nat} {v : Int32} {h' : zH} (hc : zq_code k pc = some (.putfield i, 3)) (hf : (zq_fps.getD (zq_own k) []).lookup i = some (ci, kf, pz)) (hci : ci < 11) (hfin : (zq_Tf ci kf).2.2.2 = false) (ht : zq_tag (zq_ty ci kf) = 0) (hv : zo_pB h ci a kf v = some h') (kk : zq_wp sc d k (pc + 3) lv st h' o) : zq_wp sc d k pc lv (.int v :: .ref a :: st) h o := by
  refine zr_put hc hf hci hfin ?_ kk
  unfold zo_pB at hv
  unfold zq_pf
  split at hv
  next hk =>
    rw [if_pos hk.1, ht]
    show (if zq_fit (zq_ty ci kf) v = true then some (h.1, zq_sI h.2 a kf v) else none) = _
    rw [if_pos hk.2]
    exact hv
  next => cases hv
theorem zr_pL {i ci kf pz a : Nat} {v : Int64} {h' : zH} (hc : zq_code k pc = some (.putfield i, 3)) (hf : (zq_fps.getD (zq_own k) []).lookup i = some (ci, kf, pz)) (hci : ci < 11) (hfin : (zq_Tf ci kf).2.2.2 = false) (ht : zq_tag (zq_ty ci kf) = 1) (hv : zo_pL h ci a kf v = some h') (kk : zq_wp sc d k (pc + 3) lv st h' o) : zq_wp sc d k pc lv (.long v :: .ref a :: st) h o := by
  refine zr_put hc hf hci hfin ?_ kk
  unfold zo_pL at hv
  unfold zq_pf
  split at hv
  next hk => rw [if_pos hk, ht]; exact hv
  next => cases hv
theorem zr_pR {i ci kf pz a : Nat} {v : Option Nat} {h' : zH} (hc : zq_code k pc = some (.putfield i, 3)) (hf : (zq_fps.getD (zq_own k) []).lookup i = some (ci, kf, pz)) (hci : ci < 11) (hfin : (zq_Tf ci kf).2.2.2 = false) (ht : zq_tag (zq_ty ci kf) = 2) (hv : zo_pR h ci a kf v = some h') (kk : zq_wp sc d k (pc + 3) lv st h' o) : zq_wp sc d k pc lv (va_rf v :: .ref a :: st) h o := by
  refine zr_put hc hf hci hfin ?_ kk
  unfold zo_pR at hv
  unfold zq_pf
  split at hv
  next hk => rw [if_pos hk, ht]; cases v <;> exact hv
  next => cases hv
theorem zr_iald {a : Nat} {i v : Int32} (hc : zq_code k pc = some (.iaload, 1)) (hv : zq_rdI sc h a i = some v) (kk : zq_wp sc d k (pc + 1) lv (.int v :: st) h o) : zq_wp sc d k pc lv (.int i :: .ref a :: st) h o := zr_op (fun v => (pc + 1, lv, .int v :: st, h)) hc rfl hv kk
theorem zr_cald {a : Nat} {i v : Int32} (hc : zq_code k pc = some (.caload, 1)) (hv : zq_rdX 3 h a i = some v) (kk : zq_wp sc d k (pc + 1) lv (.int v :: st) h o) : zq_wp sc d k pc lv (.int i :: .ref a :: st) h o := zr_op (fun v => (pc + 1, lv, .int v :: st, h)) hc rfl hv kk
theorem zr_bald {a : Nat} {i v : Int32} (hc : zq_code k pc = some (.baload, 1)) (hv : zq_rdX 4 h a i = some v) (kk : zq_wp sc d k (pc + 1) lv (.int v :: st) h o) : zq_wp sc d k pc lv (.int i :: .ref a :: st) h o := zr_op (fun v => (pc + 1, lv, .int v :: st, h)) hc rfl hv kk
theorem zr_lald {a : Nat} {i : Int32} {v : Int64} (hc : zq_code k pc = some (.laload, 1)) (hv : zq_rdL h a i = some v) (kk : zq_wp sc d k (pc + 1) lv (.long v :: st) h o) : zq_wp sc d k pc lv (.int i :: .ref a :: st) h o := zr_op (fun v => (pc + 1, lv, .long v :: st, h)) hc rfl hv kk
theorem zr_aald {a : Nat} {i : Int32} {v : Nat} (hc : zq_code k pc = some (.aaload, 1)) (hv : zo_rdR h a i = some v) (kk : zq_wp sc d k (pc + 1) lv (.ref v :: st) h o) : zq_wp sc d k pc lv (.int i :: .ref a :: st) h o := by
  unfold zo_rdR at hv
  cases hr : zq_rdR h a i with
  | none => rw [hr] at hv; cases hv
  | some w =>
    rw [hr] at hv
    cases w with
    | none => cases hv
    | some u =>
      cases hv
      exact zr_op (fun v => (pc + 1, lv, va_rf v :: st, h)) hc rfl hr kk
theorem zr_alen {a : Nat} {v : Int32} (hc : zq_code k pc = some (.arraylength, 1)) (hv : zq_len sc h a = some v) (kk : zq_wp sc d k (pc + 1) lv (.int v :: st) h o) : zq_wp sc d k pc lv (.ref a :: st) h o := zr_op (fun v => (pc + 1, lv, .int v :: st, h)) hc rfl hv kk
theorem zr_iast {a : Nat} {i x : Int32} {h' : zH} (hc : zq_code k pc = some (.iastore, 1)) (hv : zq_wrX 1 h a i x = some h') (kk : zq_wp sc d k (pc + 1) lv st h' o) : zq_wp sc d k pc lv (.int x :: .int i :: .ref a :: st) h o := zr_op (fun h' => (pc + 1, lv, st, h')) hc rfl hv kk
theorem zr_cast {a : Nat} {i x : Int32} {h' : zH} (hc : zq_code k pc = some (.castore, 1)) (hv : zq_wrX 3 h a i (vp_nar .char x) = some h') (kk : zq_wp sc d k (pc + 1) lv st h' o) : zq_wp sc d k pc lv (.int x :: .int i :: .ref a :: st) h o := zr_op (fun h' => (pc + 1, lv, st, h')) hc rfl hv kk
theorem zr_bast {a : Nat} {i x : Int32} {h' : zH} (hc : zq_code k pc = some (.bastore, 1)) (hv : zq_wrX 4 h a i (vp_nar .boolean x) = some h') (kk : zq_wp sc d k (pc + 1) lv st h' o) : zq_wp sc d k pc lv (.int x :: .int i :: .ref a :: st) h o := zr_op (fun h' => (pc + 1, lv, st, h')) hc rfl hv kk
theorem zr_last {a : Nat} {i : Int32} {x : Int64} {h' : zH} (hc : zq_code k pc = some (.lastore, 1)) (hv : zq_wrL h a i x = some h') (kk : zq_wp sc d k (pc + 1) lv st h' o) : zq_wp sc d k pc lv (.long x :: .int i :: .ref a :: st) h o := zr_op (fun h' => (pc + 1, lv, st, h')) hc rfl hv kk
theorem zr_idiv {x y v : Int32} (hc : zq_code k pc = some (.idiv, 1)) (hv : zo_dv x y = some v) (kk : zq_wp sc d k (pc + 1) lv (.int v :: st) h o) : zq_wp sc d k pc lv (.int y :: .int x :: st) h o := by
  unfold zo_dv at hv
  split at hv
  next => cases hv
  next hy => cases hv; exact zq_w1 (c := (pc + 1, lv, .int (x / y) :: st, h)) hc (if_neg hy) kk
theorem zr_irem {x y v : Int32} (hc : zq_code k pc = some (.irem, 1)) (hv : zo_rm x y = some v) (kk : zq_wp sc d k (pc + 1) lv (.int v :: st) h o) : zq_wp sc d k pc lv (.int y :: .int x :: st) h o := by
  unfold zo_rm at hv
  split at hv
  next => cases hv
  next hy => cases hv; exact zq_w1 (c := (pc + 1, lv, .int (x - x / y * y) :: st, h)) hc (if_neg hy) kk
theorem zr_ldiv {x y v : Int64} (hc : zq_code k pc = some (.ldiv, 1)) (hv : zo_dvL x y = some v) (kk : zq_wp sc d k (pc + 1) lv (.long v :: st) h o) : zq_wp sc d k pc lv (.long y :: .long x :: st) h o := by
  unfold zo_dvL at hv
  split at hv
  next => cases hv
  next hy => cases hv; exact zq_w1 (c := (pc + 1, lv, .long (x / y) :: st, h)) hc (if_neg hy) kk
theorem zr_lrem {x y v : Int64} (hc : zq_code k pc = some (.lrem, 1)) (hv : zo_rmL x y = some v) (kk : zq_wp sc d k (pc + 1) lv (.long v :: st) h o) : zq_wp sc d k pc lv (.long y :: .long x :: st) h o := by
  unfold zo_rmL at hv
  split at hv
  next => cases hv
  next hy => cases hv; exact zq_w1 (c := (pc + 1, lv, .long (x - x / y * y) :: st, h)) hc (if_neg hy) kk
theorem zr_null {off : Int} {t : Nat} (w : Option Nat) (hc : zq_code k pc = some (.ifnull off, 3)) (ht : zq_tg pc off = some t) (kn : w = none → zq_wp sc d k t lv st h o) (ks : ∀ a, w = some a → zq_wp sc d k (pc + 3) lv st h o) : zq_wp sc d k pc lv (va_rf w :: st) h o := by
  cases w with
  | none =>
    refine zq_w1 (c := (t, lv, st, h)) hc ?_ (kn rfl)
    show (zq_tg pc off).map (fun t => (t, lv, st, h)) = _
    rw [ht]
    rfl
  | some a => exact zq_w1 (c := (pc + 3, lv, st, h)) hc rfl (ks a rfl)
/-- references that may be compared -/
def zo_ok (w : Option Nat) : Prop := ∀ i, w = some i → i < 38 ∨ 64 ≤ i
theorem zo_rok {w : Option Nat} (hw : zo_ok w) : zq_rok (va_rf w) = true := by
  cases w with
  | none => rfl
  | some i => exact decide_eq_true (hw i rfl)
theorem zo_rf_inj {w v : Option Nat} : va_rf w = va_rf v ↔ w = v := by
  constructor
  · intro h
    cases w <;> cases v <;> first | rfl | (cases h; done) | (cases h; rfl)
  · intro h; rw [h]
theorem zr_ane {off : Int} {t : Nat} (x y : Option Nat) (hc : zq_code k pc = some (.if_acmp .ne off, 3)) (ht : zq_tg pc off = some t) (hx : zo_ok x) (hy : zo_ok y) (ke : x = y → zq_wp sc d k (pc + 3) lv st h o) (kn : ¬ x = y → zq_wp sc d k t lv st h o) : zq_wp sc d k pc lv (va_rf y :: va_rf x :: st) h o := by
  have h1 : zq_stp sc false d (zq_own k) (zq_ini k) (.if_acmp .ne off) pc lv (va_rf y :: va_rf x :: st) h = some (if va_rf x = va_rf y then pc + 3 else t, lv, st, h) := by
    show (if zq_rok (va_rf x) = true ∧ zq_rok (va_rf y) = true then (zq_tg pc off).map (fun t => (if va_rf x = va_rf y then pc + 3 else t, lv, st, h)) else none) = _
    rw [if_pos ⟨zo_rok hx, zo_rok hy⟩, ht]
    rfl
  exact zr_if (va_rf x = va_rf y) (pc + 3) t hc h1 (fun e => ke (zo_rf_inj.mp e)) (fun e => kn (fun q => e (zo_rf_inj.mpr q)))
theorem zr_aeq {off : Int} {t : Nat} (x y : Option Nat) (hc : zq_code k pc = some (.if_acmp .eq off, 3)) (ht : zq_tg pc off = some t) (hx : zo_ok x) (hy : zo_ok y) (ke : x = y → zq_wp sc d k t lv st h o) (kn : ¬ x = y → zq_wp sc d k (pc + 3) lv st h o) : zq_wp sc d k pc lv (va_rf y :: va_rf x :: st) h o := by
  have h1 : zq_stp sc false d (zq_own k) (zq_ini k) (.if_acmp .eq off) pc lv (va_rf y :: va_rf x :: st) h = some (if va_rf x = va_rf y then t else pc + 3, lv, st, h) := by
    show (if zq_rok (va_rf x) = true ∧ zq_rok (va_rf y) = true then (zq_tg pc off).map (fun t => (if va_rf x = va_rf y then t else pc + 3, lv, st, h)) else none) = _
    rw [if_pos ⟨zo_rok hx, zo_rok hy⟩, ht]
    rfl
  exact zr_if (va_rf x = va_rf y) t (pc + 3) hc h1 (fun e => ke (zo_rf_inj.mp e)) (fun e => kn (fun q => e (zo_rf_inj.mpr q)))
/-- a table of targets -/
def zo_ts (pc : Nat) (dflt lo hi : Int) (offs : Array Int) (x : Int32) : Option Nat := if x.toInt < lo ∨ hi < x.toInt then zq_tg pc dflt else match offs[(x.toInt - lo).toNat]? with | some off => zq_tg pc off | none => none
theorem zr_ts {dflt lo hi : Int} {offs : Array Int} {len t : Nat} {x : Int32} (hc : zq_code k pc = some (.tableswitch dflt lo hi offs, len)) (ht : zo_ts pc dflt lo hi offs x = some t) (kk : zq_wp sc d k t lv st h o) : zq_wp sc d k pc lv (.int x :: st) h o := by
  refine zq_w1 (c := (t, lv, st, h)) hc ?_ kk
  show zq_g6 (.tableswitch dflt lo hi offs) pc lv (.int x :: st) h = _
  unfold zq_g6
  unfold zo_ts at ht
  dsimp only
  split at ht
  next hq => rw [if_pos hq, ht]; rfl
  next hq =>
    rw [if_neg hq]
    split at ht
    next off ho => rw [ho]; dsimp only; rw [ht]; rfl
    next => cases ht
theorem zr_max {i : Nat} {pz : Nat × Nat} {x y : Int32} (hc : zq_code k pc = some (.invokestatic i, 3)) (hp : (zq_pps.getD (zq_own k) []).lookup i = some (1000, pz)) (hcat : zq_cat st ≤ 8) (kk : zq_wp sc (d + 1) k (pc + 3) lv (.int (if x < y then y else x) :: st) h o) : zq_wp sc (d + 1) k pc lv (.int y :: .int x :: st) h o := by
  refine zq_w1 (c := (pc + 3, lv, .int (if x < y then y else x) :: st, h)) hc ?_ kk
  show zq_ga (d + 1) (zq_own k) (.invokestatic i) pc lv (.int y :: .int x :: st) h = _
  unfold zq_ga
  simp only [hp]
  rw [if_neg (Nat.succ_ne_zero d), if_pos trivial, if_pos hcat]
theorem zr_min {i : Nat} {pz : Nat × Nat} {x y : Int32} (hc : zq_code k pc = some (.invokestatic i, 3)) (hp : (zq_pps.getD (zq_own k) []).lookup i = some (1001, pz)) (hcat : zq_cat st ≤ 8) (kk : zq_wp sc (d + 1) k (pc + 3) lv (.int (if y < x then y else x) :: st) h o) : zq_wp sc (d + 1) k pc lv (.int y :: .int x :: st) h o := by
  refine zq_w1 (c := (pc + 3, lv, .int (if y < x then y else x) :: st, h)) hc ?_ kk
  show zq_ga (d + 1) (zq_own k) (.invokestatic i) pc lv (.int y :: .int x :: st) h = _
  unfold zq_ga
  simp only [hp]
  rw [if_neg (Nat.succ_ne_zero d), if_neg (by decide), if_pos trivial, if_pos hcat]
/-- a virtual call -/
theorem zr_cv {i k' a : Nat} {pz : Nat × Nat} (q : zq_I) (as' rest : List Value) {v : Option Value} {h1 : zH} (hc : zq_code k pc = some (.invokevirtual i, 3)) (hp : (zq_pps.getD (zq_own k) []).lookup i = some (k', pz)) (hq : zq_MT[k']? = some q) (hk : q.2.2.2.2.2.2 = 1) (hN : q.2.2.2.2.2.1 = as'.length + 1) (hcat : zq_cat rest ≤ 8) (hsl : (zq_sls (.ref a :: as')).length ≤ q.2.2.1) (hkd : zq_kd h a = some (0, q.2.2.2.2.1)) (hm : zq_wm sc d k' (.ref a :: as') h (v, h1)) (kk : zq_wp sc (d + 1) k (pc + 3) lv (v.toList ++ rest) h1 o) : zq_wp sc (d + 1) k pc lv (as'.reverse ++ .ref a :: rest) h o := by
  have e0 : as'.reverse ++ .ref a :: rest = (as'.reverse ++ [.ref a]) ++ rest := by simp
  have hl : (as'.reverse ++ [Value.ref a]).length = as'.length + 1 := by simp
  have e1 : (as'.reverse ++ .ref a :: rest).take (as'.length + 1) = as'.reverse ++ [.ref a] := by
    rw [e0, ← hl, List.take_left]
  have e2 : (as'.reverse ++ .ref a :: rest).drop (as'.length + 1) = rest := by
    rw [e0, ← hl, List.drop_left]
  have e3 : ((as'.reverse ++ .ref a :: rest).take (as'.length + 1)).reverse = .ref a :: as' := by rw [e1]; simp
  refine zq_wc hc rfl ?_ (k' := k') (as := .ref a :: as') (rest := rest) ?_ hm kk
  · unfold zq_ret; rfl
  · unfold zq_cal
    dsimp only
    simp only [hp, hq]
    rw [if_pos]
    · rw [hN, e3, e2]
    · refine ⟨hk, ?_, ?_, ?_, Or.inr ?_⟩
      · rw [hN]; simp
      · rw [hN, e2]; exact hcat
      · rw [hN, e3]; exact hsl
      · unfold zq_rcv
        have e4 : (as'.reverse ++ .ref a :: rest)[q.2.2.2.2.2.1 - 1]? = some (.ref a) := by
          rw [hN, List.getElem?_append_right (by simp)]
          simp
        rw [e4]
        exact decide_eq_true hkd
/-- a static call -/
theorem zr_cs {i k' : Nat} {pz : Nat × Nat} (q : zq_I) (as rest : List Value) {v : Option Value} {h1 : zH} (hc : zq_code k pc = some (.invokestatic i, 3)) (hp : (zq_pps.getD (zq_own k) []).lookup i = some (k', pz)) (hk' : k' < 1000) (hq : zq_MT[k']? = some q) (hk : q.2.2.2.2.2.2 = 0) (hN : q.2.2.2.2.2.1 = as.length) (hcat : zq_cat rest ≤ 8) (hsl : (zq_sls as).length ≤ q.2.2.1) (hm : zq_wm sc d k' as h (v, h1)) (kk : zq_wp sc (d + 1) k (pc + 3) lv (v.toList ++ rest) h1 o) : zq_wp sc (d + 1) k pc lv (as.reverse ++ rest) h o := by
  have hl : as.reverse.length = as.length := by simp
  have e1 : (as.reverse ++ rest).take as.length = as.reverse := by rw [← hl, List.take_left]
  have e2 : (as.reverse ++ rest).drop as.length = rest := by rw [← hl, List.drop_left]
  refine zq_wc hc ?_ ?_ (k' := k') (as := as) (rest := rest) ?_ hm kk
  · show zq_ga (d + 1) (zq_own k) (.invokestatic i) pc lv (as.reverse ++ rest) h = none
    unfold zq_ga
    simp only [hp]
    rw [if_neg (Nat.succ_ne_zero d), if_neg (by omega), if_neg (by omega)]
  · unfold zq_ret; rfl
  · unfold zq_cal
    dsimp only
    simp only [hp, hq]
    rw [if_pos]
    · rw [hN, e1, e2, List.reverse_reverse]
    · refine ⟨hk, ?_, ?_, ?_, Or.inl trivial⟩
      · rw [hN]; simp
      · rw [hN, e2]; exact hcat
      · rw [hN, e1, List.reverse_reverse]; exact hsl
theorem zr_ri {v r : Int32} {h' : zH} {ty : FieldType} (hc : zq_code k pc = some (.ireturn, 1)) (hr : zq_rt k = some ty) (hf : zq_fit ty v = true) (ho : some (v, h) = some (r, h')) : zq_wp sc d k pc lv [.int v] h (some (.int r), h') := by
  obtain ⟨rfl, rfl⟩ : v = r ∧ h = h' := by cases ho; exact ⟨rfl, rfl⟩
  refine zq_wr hc rfl (v := some (.int v)) ?_ rfl
  rw [hr]
  show (if zq_fit ty v = true then some (some (Value.int v)) else none) = _
  rw [if_pos hf]
theorem zr_rb {v r : Int32} {h' : zH} (hc : zq_code k pc = some (.ireturn, 1)) (hr : zq_rt k = some .boolean) (ho : zo_rb v h = some (r, h')) : zq_wp sc d k pc lv [.int v] h (some (.int r), h') := by
  unfold zo_rb at ho
  split at ho
  next hv => exact zr_ri hc hr (decide_eq_true hv) ho
  next => cases ho
theorem zr_rc {v r : Int32} {h' : zH} (hc : zq_code k pc = some (.ireturn, 1)) (hr : zq_rt k = some .char) (ho : zo_rc v h = some (r, h')) : zq_wp sc d k pc lv [.int v] h (some (.int r), h') := by
  unfold zo_rc at ho
  split at ho
  next hv => exact zr_ri hc hr (decide_eq_true hv) ho
  next => cases ho
theorem zr_rl {v r : Int64} {h' : zH} (hc : zq_code k pc = some (.lreturn, 1)) (hr : zq_rt k = some .long) (ho : some (v, h) = some (r, h')) : zq_wp sc d k pc lv [.long v] h (some (.long r), h') := by
  obtain ⟨rfl, rfl⟩ : v = r ∧ h = h' := by cases ho; exact ⟨rfl, rfl⟩
  refine zq_wr hc rfl (v := some (.long v)) ?_ rfl
  rw [hr]
  unfold zq_ret
  rfl
theorem zr_rv {h' : zH} {u : Unit} (hc : zq_code k pc = some (.return_, 1)) (hr : zq_rt k = none) (ho : some ((), h) = some (u, h')) : zq_wp sc d k pc lv [] h (none, h') := by
  obtain rfl : h = h' := by cases ho; rfl
  refine zq_wr hc rfl (v := none) ?_ rfl
  rw [hr]
  unfold zq_ret
  rfl
theorem zr_ra {w r : Option Nat} {h' : zH} {nm : String} (hc : zq_code k pc = some (.areturn, 1)) (hr : zq_rt k = some (.object nm)) (ho : some (w, h) = some (r, h')) : zq_wp sc d k pc lv [va_rf w] h (some (va_rf r), h') := by
  obtain ⟨rfl, rfl⟩ : w = r ∧ h = h' := by cases ho; exact ⟨rfl, rfl⟩
  have hs : zq_stp sc false d (zq_own k) (zq_ini k) .areturn pc lv [va_rf w] h = none := rfl
  refine zq_wr hc hs (v := some (va_rf w)) ?_ rfl
  rw [hr]
  cases w <;> rfl
end ZW
