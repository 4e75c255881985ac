/-! wars as told: the reference, what one token brings (draft: never built) -/
def zMV (r : zRr) (N : Nat) (K : List zTo) (f : zH → Option (Int32 × zH)) (I : zII) (J : zJJ) (k : Nat) (res : Except Nat (List zTo × Nat)) : Prop := match res with
  | .ok p => f (zG I J r) = some (zn p.2, zG (zU I 216 7 (zn (k + 1))) J r) ∧ p.1 = K.drop (k + 1) ∧ k < K.length ∧ p.2 ≤ 9999
  | .error F => 1 ≤ F ∧ F ≤ 20000 ∧ f (zG I J r) = some (zn 0, zG (zU I 216 8 (zn F)) J r) ∧ zMs (zU I 216 8 (zn F)) J N K k F
section ZO
variable {sc : zX} {I : zII} {J : zJJ} {r : zRr} {N k : Nat} {K : List zTo}
theorem mzer_b (h : zMs I J N K k 0) {x : Nat} (h1 : 1 ≤ x) (h2 : x ≤ 5) : 1 ≤ zer x N (K.drop k) ∧ zer x N (K.drop k) ≤ 20000 := by
  have := h.plb
  unfold zer
  omega
theorem mnumber_v (h : zMs I J N K k 0) {lo hi : Nat} (hlo : lo < 100000) (hhi : hi < 100000) : zMV r N K (fun h => zm_takeNumber sc 216 (zn lo) (zn hi) h) I J k (znb N lo hi (K.drop k)) := by
  unfold znb
  cases hz : zNub (K.drop k) with
  | none =>
    obtain ⟨b1, b2⟩ := mzer_b h (x := 1) (by decide) (by decide)
    exact ⟨b1, b2, mtakeNumber_n h (zn lo) (zn hi) hz, h.er (by decide)⟩
  | some x =>
    obtain ⟨g1, g2, _, _⟩ := mNm_e h hz
    by_cases c : lo ≤ x ∧ x ≤ hi
    · dsimp only
      rw [if_pos c]
      exact ⟨mtakeNumber_t h hhi hlo hz c.1 c.2, by rw [List.tail_drop], g1, g2⟩
    · dsimp only
      rw [if_neg c]
      obtain ⟨b1, b2⟩ := mzer_b h (x := 4) (by decide) (by decide)
      exact ⟨b1, b2, mtakeNumber_f h hhi hlo hz c, h.er (by decide)⟩
theorem mwhich_v (h : zMs I J N K k 0) {fr n u : Nat} (hn : fr + n ≤ 36) (he : zwf fr n (zws (K.drop k)) = zwh (K.drop k) u) : zMV r N K (fun h => zm_takeOne sc 216 (zn fr) (zn n) h) I J k (zwq N u (K.drop k)) := by
  unfold zwq
  cases hz : zwh (K.drop k) u with
  | none =>
    obtain ⟨b1, b2⟩ := mzer_b h (x := 1) (by decide) (by decide)
    exact ⟨b1, b2, mtakeOne_n h hn (he.trans hz), h.er (by decide)⟩
  | some m =>
    have hm := zwh_lt hz
    obtain ⟨t, M, hM⟩ := zwh_c hz
    have hk : k < K.length := by
      by_cases z : k < K.length
      · exact z
      · rw [List.drop_eq_nil_iff.mpr (by omega)] at hM; cases hM
    exact ⟨mtakeOne_t h hn (he.trans hz) (by omega), by rw [List.tail_drop], hk, by show m ≤ 9999; omega⟩
end ZO
