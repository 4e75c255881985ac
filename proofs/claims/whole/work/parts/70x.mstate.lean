/-! the reference as it reads: where it stands, or its fault -/
/-- a word that must stand here -/
def zwo (N i : Nat) (L : List zTo) : Except Nat (List zTo × Unit) := if zws L = some i then .ok (L.tail, ()) else .error (zer 1 N L)
def zsi (N c : Nat) (L : List zTo) : Except Nat (List zTo × Unit) := if zis L c then .ok (L.tail, ()) else .error (zer 1 N L)
theorem zif_ne {α : Type} {a b : Nat} (h : a ≠ b) {x y : α} : (if a = b then x else y) = y := if_neg h
def zSs (I : zII) (J : zJJ) (N : Nat) (K : List zTo) (S : Except Nat (List zTo)) : Prop := match S with
  | .ok L => ∃ k, zMs I J N K k 0 ∧ L = K.drop k
  | .error F => 1 ≤ F ∧ ∃ k, zMs I J N K k F
def zap {α : Type} (d : α) (res : List zTo → Except Nat (List zTo × α)) (S : Except Nat (List zTo)) : Except Nat (List zTo) × α := match S with
  | .error F => (.error F, d)
  | .ok L => match res L with
    | .error F => (.error F, d)
    | .ok p => (.ok p.1, p.2)
def zF7 (I I' : zII) : Prop := zFr [216] I I' ∧ ∀ j, j ≠ 7 → j ≠ 8 → I' 216 j = I 216 j
theorem zF7.refl (I : zII) : zF7 I I := ⟨zFr.refl _ _, fun _ _ _ => rfl⟩
theorem zF7.tr {I I1 I2 : zII} (h : zF7 I I1) (h2 : zF7 I1 I2) : zF7 I I2 := ⟨h.1.tr h2.1, fun j a b => (h2.2 j a b).trans (h.2 j a b)⟩
theorem zF7.u7 {I : zII} {x : Int32} : zF7 I (zU I 216 7 x) := ⟨(zFr.refl _ I).u (by simp only [List.mem_cons, List.not_mem_nil, or_false, true_or, or_true] <;> omega), fun j a _ => zU_ne2 a⟩
theorem zF7.u8 {I : zII} {x : Int32} : zF7 I (zU I 216 8 x) := ⟨(zFr.refl _ I).u (by simp only [List.mem_cons, List.not_mem_nil, or_false, true_or, or_true] <;> omega), fun j _ a => zU_ne2 a⟩
theorem zSs.fr {I I' : zII} {J J' : zJJ} {N : Nat} {K : List zTo} {S : Except Nat (List zTo)} (h : zSs I J N K S) (h1 : I' 218 = I 218) (h2 : I' 219 = I 219) (h5 : I' 216 7 = I 216 7) (h6 : I' 216 8 = I 216 8) (h3 : J' 220 = J 220) (h4 : J' 221 = J 221) : zSs I' J' N K S := by
  cases S with
  | ok L =>
    obtain ⟨k, g1, g2⟩ := h
    exact ⟨k, g1.fr h1 h2 h5 h6 h3 h4, g2⟩
  | error F =>
    obtain ⟨g0, k, g1⟩ := h
    exact ⟨g0, k, g1.fr h1 h2 h5 h6 h3 h4⟩
theorem zap_e {α : Type} {d : α} {res : List zTo → Except Nat (List zTo × α)} {F : Nat} : zap d res (.error F) = (.error F, d) := rfl
theorem zap_ok {α : Type} {d : α} {res : List zTo → Except Nat (List zTo × α)} {L L' : List zTo} {x : α} (h : res L = .ok (L', x)) : zap d res (.ok L) = (.ok L', x) := by
  show (match res L with | .error F => (Except.error F, d) | .ok p => (Except.ok p.1, p.2)) = _
  rw [h]
theorem zap_er {α : Type} {d : α} {res : List zTo → Except Nat (List zTo × α)} {L : List zTo} {F : Nat} (h : res L = .error F) : zap d res (.ok L) = (.error F, d) := by
  show (match res L with | .error F => (Except.error F, d) | .ok p => (Except.ok p.1, p.2)) = _
  rw [h]
section ZO
variable {sc : zX} {I : zII} {J : zJJ} {r : zRr} {N k : Nat} {K : List zTo} {S : Except Nat (List zTo)}
theorem zSs.f8 (h : zSs I J N K S) : ∃ x, I 216 8 = zn x ∧ x ≤ 20000 ∧ (match (generalizing := false) S with | .ok _ => x = 0 | .error F => x = F ∧ 1 ≤ x) := by
  cases S with
  | ok L =>
    obtain ⟨k, g1, g2⟩ := h
    exact ⟨0, g1.2.2.2.1, by decide, rfl⟩
  | error F =>
    obtain ⟨g0, k, g1⟩ := h
    exact ⟨F, g1.2.2.2.1, g1.2.2.2.2, rfl, g0⟩
theorem zSs.a7 (h : zSs I J N K S) : ∃ x, I 216 7 = zn x ∧ x ≤ 1000 := by
  cases S with
  | ok L =>
    obtain ⟨k, g1, g2⟩ := h
    exact ⟨k, g1.2.2.1, Nat.le_trans g1.2.1 g1.1.2.2.2.1⟩
  | error F =>
    obtain ⟨g0, k, g1⟩ := h
    exact ⟨k, g1.2.2.1, Nat.le_trans g1.2.1 g1.1.2.2.2.1⟩
/-- the sort that stands there -/
theorem zSs.so {L : List zTo} (h : zSs I J N K (.ok L)) : ∃ k x, I 216 7 = zn k ∧ k ≤ 1000 ∧ I 216 8 = zn 0 ∧ I 218 k = zn x ∧ x ≤ 4 ∧ (x = 0 ↔ L = []) := by
  obtain ⟨k, g1, rfl⟩ := h
  have hb : k ≤ 1000 := Nat.le_trans g1.2.1 g1.1.2.2.2.1
  cases hz : K[k]? with
  | none =>
    have hk : k = K.length := by have := List.getElem?_eq_none_iff.mp hz; have := g1.2.1; omega
    exact ⟨k, 0, g1.2.2.1, hb, g1.2.2.2.1, by rw [hk]; exact g1.1.2.1, by decide, ⟨fun _ => zdrop_n hz, fun _ => rfl⟩⟩
  | some t =>
    obtain ⟨e1, _⟩ := g1.1.1 k t hz
    have hg := (g1.1.2.2.2.2.2.1 t (List.mem_of_getElem? hz)).2
    have ht : 1 ≤ t.1 ∧ t.1 ≤ 4 := by rcases hg with q | q | q | q <;> omega
    rw [zdrop_c hz]
    exact ⟨k, t.1, g1.2.2.1, hb, g1.2.2.2.1, e1, ht.2, ⟨fun q => by omega, fun q => by cases q⟩⟩
theorem zMV.s {f : zH → Option (Int32 × zH)} {L : List zTo} {res : List zTo → Except Nat (List zTo × Nat)} (h : zMs I J N K k 0) (hL : L = K.drop k) (hm : zMV r N K f I J k (res L)) : ∃ I', f (zG I J r) = some (zn (zap 0 res (.ok L)).2, zG I' J r) ∧ zSs I' J N K (zap 0 res (.ok L)).1 ∧ zF7 I I' := by
  cases hr : res L with
  | error F =>
    rw [hr] at hm
    rw [zap_er hr]
    exact ⟨_, hm.2.2.1, ⟨hm.1, k, hm.2.2.2⟩, zF7.u8⟩
  | ok p =>
    rw [hr] at hm
    rw [zap_ok (L' := p.1) (x := p.2) hr]
    exact ⟨_, hm.1, ⟨k + 1, h.at7 (k + 1) hm.2.2.1, hm.2.1⟩, zF7.u7⟩
theorem mnumber_s (h : zSs I J N K S) {lo hi : Nat} (hlo : lo < 100000) (hhi : hi < 100000) : ∃ I', zm_takeNumber sc 216 (zn lo) (zn hi) (zG I J r) = some (zn (zap 0 (znb N lo hi) S).2, zG I' J r) ∧ zSs I' J N K (zap 0 (znb N lo hi) S).1 ∧ zF7 I I' := by
  cases S with
  | ok L =>
    obtain ⟨k, g1, rfl⟩ := h
    exact (mnumber_v (sc := sc) (r := r) g1 hlo hhi).s g1 rfl
  | error F =>
    obtain ⟨g0, k, g1⟩ := h
    exact ⟨I, mtakeNumber_F g1 g0 _ _, ⟨g0, k, g1⟩, zF7.refl _⟩
theorem mwhich_s (h : zSs I J N K S) {fr n u : Nat} (hn : fr + n ≤ 36) (he : ∀ L, zwf fr n (zws L) = zwh L u) : ∃ I', zm_takeOne sc 216 (zn fr) (zn n) (zG I J r) = some (zn (zap 0 (zwq N u) S).2, zG I' J r) ∧ zSs I' J N K (zap 0 (zwq N u) S).1 ∧ zF7 I I' := by
  cases S with
  | ok L =>
    obtain ⟨k, g1, rfl⟩ := h
    exact (mwhich_v (sc := sc) (r := r) g1 hn (he _)).s g1 rfl
  | error F =>
    obtain ⟨g0, k, g1⟩ := h
    exact ⟨I, mtakeOne_F g1 g0 _ _, ⟨g0, k, g1⟩, zF7.refl _⟩
theorem msign_s (h : zSs I J N K S) {c : Nat} (hc : c < 127) : ∃ I', zm_takeSign sc 216 (zn c) (zG I J r) = some ((), zG I' J r) ∧ zSs I' J N K (zap () (zsi N c) S).1 ∧ zF7 I I' := by
  cases S with
  | ok L =>
    obtain ⟨k, g1, rfl⟩ := h
    cases hz : zis (K.drop k) c with
    | true =>
      have e : zsi N c (K.drop k) = .ok ((K.drop k).tail, ()) := by unfold zsi; rw [hz, if_pos rfl]
      rw [zap_ok e]
      have hk : k + 1 ≤ K.length := by
        obtain ⟨t, M, hM⟩ := zis_c hz
        by_cases z : k < K.length
        · exact z
        · rw [List.drop_eq_nil_iff.mpr (by omega)] at hM; cases hM
      exact ⟨_, mtakeSign_t g1 hc hz, ⟨k + 1, g1.at7 (k + 1) hk, by rw [List.tail_drop]⟩, zF7.u7⟩
    | false =>
      have e : zsi N c (K.drop k) = .error (zer 1 N (K.drop k)) := by unfold zsi; rw [hz, if_neg (by decide)]
      rw [zap_er e]
      exact ⟨_, mtakeSign_f g1 hc hz, ⟨by unfold zer; omega, k, g1.er (by decide)⟩, zF7.u8⟩
  | error F =>
    obtain ⟨g0, k, g1⟩ := h
    exact ⟨I, mtakeSign_F g1 g0 _, ⟨g0, k, g1⟩, zF7.refl _⟩
theorem mword_s (h : zSs I J N K S) {i i' : Nat} (hi : i < 36) (hi' : zsg.getD i 0 = i') : ∃ I', zm_takeWord sc 216 (zn i) (zG I J r) = some ((), zG I' J r) ∧ zSs I' J N K (zap () (zwo N i') S).1 ∧ zF7 I I' := by
  subst hi'
  cases S with
  | ok L =>
    obtain ⟨k, g1, rfl⟩ := h
    by_cases hz : zws (K.drop k) = some (zsg.getD i 0)
    · have e : zwo N (zsg.getD i 0) (K.drop k) = .ok ((K.drop k).tail, ()) := by unfold zwo; rw [if_pos hz]
      rw [zap_ok e]
      have hk : k + 1 ≤ K.length := by
        obtain ⟨t, M, hM⟩ := zws_c hz
        by_cases z : k < K.length
        · exact z
        · rw [List.drop_eq_nil_iff.mpr (by omega)] at hM; cases hM
      exact ⟨_, mtakeWord_t g1 hi hz, ⟨k + 1, g1.at7 (k + 1) hk, by rw [List.tail_drop]⟩, zF7.u7⟩
    · have e : zwo N (zsg.getD i 0) (K.drop k) = .error (zer 1 N (K.drop k)) := by unfold zwo; rw [if_neg hz]
      rw [zap_er e]
      exact ⟨_, mtakeWord_f g1 hi hz, ⟨by unfold zer; omega, k, g1.er (by decide)⟩, zF7.u8⟩
  | error F =>
    obtain ⟨g0, k, g1⟩ := h
    exact ⟨I, mtakeWord_F g1 g0 _, ⟨g0, k, g1⟩, zF7.refl _⟩
/-- a word and a number behind it -/
def zwn (N i lo hi : Nat) (L : List zTo) : Except Nat (List zTo × Nat) := zbn (zwo N i L) (fun L1 _ => znb N lo hi L1)
theorem zap_wn {N i lo hi : Nat} : zap 0 (znb N lo hi) (zap () (zwo N i) S).1 = zap 0 (zwn N i lo hi) S := by
  cases S with
  | error F => rfl
  | ok L =>
    cases hz : zwo N i L with
    | error F =>
      rw [zap_er hz, zap_e]
      rw [zap_er (show zwn N i lo hi L = .error F from by unfold zwn; rw [hz]; rfl)]
    | ok p =>
      have e : zwn N i lo hi L = znb N lo hi p.1 := by unfold zwn; rw [hz]; rfl
      rw [zap_ok (L' := p.1) (x := p.2) hz]
      cases hq : znb N lo hi p.1 with
      | error F => rw [zap_er hq, zap_er (e.trans hq)]
      | ok q => rw [zap_ok (L' := q.1) (x := q.2) hq, zap_ok (L' := q.1) (x := q.2) (e.trans hq)]
theorem mafter_s (h : zSs I J N K S) {i i' lo hi : Nat} (hi2 : i < 36) (hi' : zsg.getD i 0 = i') (hlo : lo < 100000) (hhi : hi < 100000) : ∃ I', zm_takeAfter sc 216 (zn i) (zn lo) (zn hi) (zG I J r) = some (zn (zap 0 (zwn N i' lo hi) S).2, zG I' J r) ∧ zSs I' J N K (zap 0 (zwn N i' lo hi) S).1 ∧ zF7 I I' := by
  obtain ⟨I1, e1, s1, f1⟩ := mword_s (sc := sc) (r := r) h hi2 hi'
  obtain ⟨I2, e2, s2, f2⟩ := mnumber_s (sc := sc) (r := r) s1 hlo hhi
  rw [zap_wn] at e2 s2
  refine ⟨I2, ?_, s2, f1.tr f2⟩
  rw [um_takeAfter]
  simp (disch := first | assumption | omega) only [↓zoc e1, ↓zoc e2, ↓gI_64, ↓gL_64, ↓pI_64, ↓pL_64, ↓vv_64, ↓gI_65, ↓gL_65, ↓pI_65, ↓pL_65, ↓vv_65, ↓gI_67, ↓gL_67, ↓pI_67, ↓pL_67, ↓vv_67, ↓gI_70, ↓gL_70, ↓pI_70, ↓pL_70, ↓vv_70, ↓gI_73, ↓gL_73, ↓pI_73, ↓pL_73, ↓vv_73, ↓gI_77, ↓gL_77, ↓pI_77, ↓pL_77, ↓vv_77, ↓gI_84, ↓gL_84, ↓pI_84, ↓pL_84, ↓vv_84, ↓gI_90, ↓gL_90, ↓pI_90, ↓pL_90, ↓vv_90, ↓gI_216, ↓gL_216, ↓pI_216, ↓pL_216, ↓vv_216, ↓rd_66, ↓wr_66, ↓ln_66, ↓at_68, ↓pt_68, ↓at_69, ↓pt_69, ↓at_71, ↓pt_71, ↓at_72, ↓pt_72, ↓at_74, ↓pt_74, ↓at_75, ↓pt_75, ↓at_76, ↓pt_76, ↓at_78, ↓pt_78, ↓at_79, ↓pt_79, ↓at_80, ↓pt_80, ↓at_81, ↓pt_81, ↓at_82, ↓pt_82, ↓at_83, ↓pt_83, ↓at_85, ↓pt_85, ↓at_86, ↓pt_86, ↓at_87, ↓pt_87, ↓at_88, ↓pt_88, ↓at_89, ↓pt_89, ↓at_91, ↓pt_91, ↓at_95, ↓pt_95, ↓rd_217, ↓wr_217, ↓ln_217, ↓rd_218, ↓wr_218, ↓ln_218, ↓rd_219, ↓wr_219, ↓ln_219, ↓rd_220, ↓wr_220, ↓ln_220, ↓rd_221, ↓wr_221, ↓ln_221, ↓rd_222, ↓wr_222, ↓ln_222, ↓rd_223, ↓wr_223, ↓ln_223, ↓rd_224, ↓wr_224, ↓ln_224, ↓rd_225, ↓wr_225, ↓ln_225, ↓rd_226, ↓wr_226, ↓ln_226, ↓rd_227, ↓wr_227, ↓ln_227, ↓rd_228, ↓wr_228, ↓ln_228, ↓rd_229, ↓wr_229, ↓ln_229, ↓rd_230, ↓wr_230, ↓ln_230, ↓rd_231, ↓wr_231, ↓ln_231, ↓rd_232, ↓wr_232, ↓ln_232, ↓rd_233, ↓wr_233, ↓ln_233, ↓rd_234, ↓wr_234, ↓ln_234, ↓rd_235, ↓wr_235, ↓ln_235, ↓rd_236, ↓wr_236, ↓ln_236, ↓rd_237, ↓wr_237, ↓ln_237, ↓rd_238, ↓wr_238, ↓ln_238, ↓rd_239, ↓wr_239, ↓ln_239, ↓rd_240, ↓wr_240, ↓ln_240, ↓rd_241, ↓wr_241, ↓ln_241, ↓rd_242, ↓wr_242, ↓ln_242, ↓rd_243, ↓wr_243, ↓ln_243, ↓gR_64_0, ↓gR_64_1, ↓gR_64_2, ↓gR_64_3, ↓gR_64_4, ↓gR_64_5, ↓gR_64_6, ↓gR_64_7, ↓gR_64_8, ↓gR_64_9, ↓gR_64_10, ↓gR_65_0, ↓gR_67_0, ↓gR_67_1, ↓gR_70_0, ↓gR_70_1, ↓gR_73_0, ↓gR_73_1, ↓gR_73_2, ↓gR_77_3, ↓gR_77_4, ↓gR_77_7, ↓gR_77_8, ↓gR_77_9, ↓gR_77_10, ↓gR_84_0, ↓gR_84_1, ↓gR_84_2, ↓gR_84_3, ↓gR_84_4, ↓gR_90_1, ↓gR_216_1, ↓gR_216_4, ↓gR_216_5, ↓gR_216_6, ↓gR_216_9, ↓gR_216_10, ↓gR_216_11, ↓gR_216_12, ↓gR_216_14, ↓gR_216_15, ↓gR_216_16, ↓gR_216_17, ↓gR_216_22, ↓gR_216_23, ↓gR_216_24, ↓gR_216_25, ↓gR_216_27, ↓gR_216_28, ↓gR_216_29, ↓gR_216_31, ↓gR_216_35, ↓gR_216_36, ↓gR_216_37, ↓gR_216_38, ↓gR_216_39, ↓gR_216_43, ↓gR_64_11, ↓gR_64_12, ↓gR_64_13, ↓gR_64_14, ↓gQ_65, ↓gI_A, ↓gL_A, ↓pI_A, ↓pL_A, ↓vv_A, ↓gI_Lw, ↓gL_Lw, ↓pI_Lw, ↓pL_Lw, ↓vv_Lw, ↓gR_A_7, ↓gR_A_8, ↓gR_A_9, ↓gR_A_10, ↓gR_A_11, ↓gR_A_12, ↓gR_A_13, ↓gR_A_14, ↓gR_A_15, ↓gR_A_16, ↓gR_A_17, ↓gR_Lw_0, ↓gR_Lw_1, ↓gR_Lw_2, ↓gR_Lw_3, ↓gR_Lw_4, ↓at_A1, ↓pt_A1, ↓at_A2, ↓pt_A2, ↓at_A3, ↓pt_A3, ↓at_A4, ↓pt_A4, ↓at_A5, ↓pt_A5, ↓at_A6, ↓pt_A6, ↓rd_A7, ↓wr_A7, ↓ln_A7, ↓rd_A8, ↓wr_A8, ↓ln_A8, ↓at_A9, ↓pt_A9, ↓at_A10, ↓pt_A10, ↓at_A12, ↓pt_A12, ↓at_A13, ↓pt_A13, ↓at_A14, ↓pt_A14, ↓at_A15, ↓pt_A15, ↓at_A16, ↓pt_A16, ↓gI_W, ↓gL_W, ↓pI_W, ↓pL_W, ↓vv_W, ↓gR_W_1, ↓gR_W_2, ↓gR_W_3, ↓gR_W_4, ↓at_W1, ↓pt_W1, ↓at_W2, ↓pt_W2, ↓at_W3, ↓pt_W3, ↓at_W4, ↓pt_W4, ↓rdR_92, ↓rdR_93, ↓rdR_94, ↓gI_S, ↓gL_S, ↓pI_S, ↓pL_S, ↓vv_S, ↓gR_S_0, ↓gR_S_1, ↓at_S1, ↓pt_S1, ↓at_S2, ↓pt_S2, ↓gI_N, ↓gL_N, ↓pI_N, ↓pL_N, ↓vv_N, ↓gR_N_0, ↓gR_N_1, ↓gR_N_2, ↓at_N1, ↓pt_N1, ↓at_N2, ↓pt_N2, ↓at_N3, ↓pt_N3, ↓pB_S, ↓pB_S0, ↓pB_S1, ↓pB_770, ↓pB_771, ↓at_6, ↓pt_6, ↓atN, ↓ptN, ↓cS, ↓bS, ↓zol, ↓zrb, ↓zrb0, ↓zrb1, ↓reduceIte, z32_s, z32_n, zb_test, zn_add, zn_mul, zn_addN, zn_sub, zU_ne, zU_eq, zU_at, zV_ne, zV_eq, zV_at, p_le, p_nle, p_lt, p_nlt, p_eq, p_neq, p_eqN, p_leN, p_ltN, p_Nle, p_Nlt, p_Neq, p_zt0, p_zt1, eq_self, Nat.reduceAdd, Nat.reduceMul, Nat.reduceSub, Nat.reduceEqDiff, Nat.reduceLT, Nat.reduceLeDiff, if_true, if_false, Bool.false_eq_true, not_true_eq_false, not_false_eq_true, reduceCtorEq]
/-- a fault told here -/
theorem mwrong_s {L : List zTo} (h : zSs I J N K (.ok L)) {x : Nat} (h1 : 1 ≤ x) (hx : x ≤ 5) : ∃ I', zm_wrong sc 216 (zn x) (zG I J r) = some ((), zG I' J r) ∧ zSs I' J N K (.error (zer x N L)) ∧ zF7 I I' := by
  obtain ⟨k, g1, rfl⟩ := h
  exact ⟨_, mwrong_e g1 x, ⟨by unfold zer; omega, k, g1.er hx⟩, zF7.u8⟩
theorem mwrongF_s {F : Nat} (h : zSs I J N K (.error F)) (x : Int32) : zm_wrong sc 216 x (zG I J r) = some ((), zG I J r) := by
  obtain ⟨g0, k, g1⟩ := h
  exact mwrong_F g1 g0 x
/-- one on, if there is no fault -/
def zon1 (S : Except Nat (List zTo)) : Except Nat (List zTo) := match S with
  | .ok L => .ok L.tail
  | .error F => .error F
theorem mon_s (h : zSs I J N K S) (hne : ∀ L, S = .ok L → L ≠ []) : ∃ x y, I 216 7 = zn x ∧ I 216 8 = zn y ∧ x ≤ 1000 ∧ y ≤ 20000 ∧ (if I 216 8 ≤ zn 0 then zn 1 else zn 0) = zn (if y = 0 then 1 else 0) ∧ (match (generalizing := false) S with | .ok _ => y = 0 | .error F => y = F ∧ 1 ≤ y) ∧ zSs (zU I 216 7 (zn (x + if y = 0 then 1 else 0))) J N K (zon1 S) := by
  cases S with
  | ok L =>
    obtain ⟨k, g1, rfl⟩ := h
    have hk : k + 1 ≤ K.length := by
      by_cases z : k < K.length
      · exact z
      · exact absurd (List.drop_eq_nil_iff.mpr (by omega)) (hne _ rfl)
    have e8 := g1.2.2.2.1
    exact ⟨k, 0, g1.2.2.1, e8, Nat.le_trans g1.2.1 g1.1.2.2.2.1, by decide, by rw [e8]; decide, rfl, k + 1, g1.at7 (k + 1) hk, by rw [List.tail_drop]⟩
  | error F =>
    obtain ⟨g0, k, g1⟩ := h
    have e8 := g1.2.2.2.1
    have e82 := g1.2.2.2.2
    refine ⟨k, F, g1.2.2.1, e8, Nat.le_trans g1.2.1 g1.1.2.2.2.1, e82, ?_, ⟨rfl, g0⟩, g0, k, ?_⟩
    · rw [e8, if_neg (by rw [zn_le (by omega) (by omega)]; omega), if_neg (by omega)]
    · rw [if_neg (by omega), Nat.add_zero, zU7 g1.2.2.1]
      exact g1
/-- a man named here -/
theorem mtold_s {A : zA} {Q : zQs} (hw : zAw A) (hQ : zQw A Q) (hq : zQm I J Q) (h : zSs I J N K S) : ∃ I' y, zm_toldHere sc 216 (zn 0) (zn 20) (zn 6) (zG I J r) = some (zn y, zG I' J r) ∧ zF7 I I' ∧ y < 6 ∧ (match (generalizing := false) S with
    | .error F => zSs I' J N K (.error F)
    | .ok L => match zwm Q N none L with
      | .error F => zSs I' J N K (.error F)
      | .ok p => zSs I' J N K (.ok L) ∧ y = p.2 ∧ p.1 = L.tail ∧ L ≠ []) := by
  cases S with
  | error F =>
    obtain ⟨g0, k, g1⟩ := h
    exact ⟨I, 0, mtold_F g1 g0 _ _ _, zF7.refl _, by decide, g0, k, g1⟩
  | ok L =>
    obtain ⟨k, g1, rfl⟩ := h
    dsimp only
    unfold zwm
    cases hn : znm (K.drop k) with
    | false =>
      rw [if_neg (by decide)]
      exact ⟨_, 0, mtold_1 g1 hn _ _ _, zF7.u8, by decide, by unfold zer; omega, k, g1.er (by decide)⟩
    | true =>
      rw [if_pos rfl]
      have e := mtold_m (sc := sc) (r := r) hw hQ hq g1 hn
      cases hz : zmn Q (zPay (K.drop k)) with
      | none =>
        rw [hz] at e
        exact ⟨_, 0, e, zF7.u8, by decide, by unfold zer; omega, k, g1.er (by decide)⟩
      | some m =>
        rw [hz] at e
        dsimp only
        rw [if_neg (show ¬ some m = (none : Option Nat) from fun q => by cases q)]
        refine ⟨I, m, e, zF7.refl _, (zmn_s hz).2, ⟨k, g1, rfl⟩, rfl, rfl, fun q => ?_⟩
        rw [q] at hn
        cases hn
end ZO
