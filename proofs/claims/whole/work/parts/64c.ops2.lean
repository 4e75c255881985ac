/-! calls that change how the war stands -/
def xU (X : zXs) (V : zWs) (L : List zWs) : zXs := (xA X, V, xN X, L, xK X, xW X, xT X, xQ X)
theorem zLs_mem {L : List zWs} {V x : zWs} (h : x ∈ zLs L V) : x ∈ L ∨ x = V := by
  unfold zLs at h
  split at h
  · rcases List.mem_append.mp h with q | q
    · exact Or.inl (List.mem_of_mem_tail q)
    · exact Or.inr (List.mem_singleton.mp q)
  · rcases List.mem_append.mp h with q | q
    · exact Or.inl q
    · exact Or.inr (List.mem_singleton.mp q)
theorem xU_w {t : Nat} {X : zXs} {V' : zWs} (hX : zXw t X) (h : zVw (xA X) (t + 1) V') : zXw (t + 1) (xU X V' (zLs (xL X) (xV X))) := by
  obtain ⟨x1, x2, x3, ⟨x4, x4'⟩, x5, x6, x7, x8⟩ := hX
  refine ⟨x1, h, x3, ⟨zLs_len x4, fun V hV => ?_⟩, fun m V N hK => ⟨(x5 m V N hK).1.mono (by omega), (x5 m V N hK).2⟩, x6, x7, x8⟩
  rcases zLs_mem hV with q | q
  · exact (x4' V q).mono (by omega)
  · rw [q]; exact x2.mono (by omega)
section ZF
variable {I I' : zII} {J J' : zJJ} {r : zRr} {X : zXs} {V' : zWs} {L' : List zWs} {t : Nat}
theorem zRc.up (h : zRc X I J r) (hI : ∀ o, 64 ≤ o → o < 216 → o ≠ 64 → ¬ (67 ≤ o ∧ o ≤ 69) → ¬ (140 ≤ o ∧ o < 188) → ¬ zsC o → I' o = I o) (h17 : I' 64 17 = I 64 17) (hJ : ∀ o, 64 ≤ o → o < 216 → o ≠ 90 → J' o = J o) (hV : zVc 67 I' (xA X) V') (hL : zPc I' (xA X) L') : zRc (xU X V' L') I' J' r := by
  obtain ⟨h1, h2, h3, h4, h5, h6, h7, h8, h9, h10⟩ := h
  have ra : r.1 = 96 ∨ r.1 = 113 := h1.ha
  have rw' : r.2.2.1 = 130 ∨ r.2.2.1 = 135 := h1.hw
  have fr : ∀ o, (65 ≤ o ∧ o ≤ 66) ∨ (73 ≤ o ∧ o ≤ 83) ∨ (96 ≤ o ∧ o < 111) ∨ (113 ≤ o ∧ o < 128) ∨ (130 ≤ o ∧ o < 140) ∨ (188 ≤ o ∧ o < 216) → I' o = I o := fun o ho => hI o (by omega) (by omega) (by omega) (by omega) (by omega) (by unfold zsC; omega)
  refine ⟨h1, h2.fr (fun o q1 q2 => fr o (by omega)), hV, h4.fr (fr _ (by omega)) (fr _ (by omega)) (fr _ (by omega)) (fr _ (by omega)), hL, ⟨?_, fun m V N hm hK => ?_⟩, ?_, ?_, ?_, ?_⟩
  · rw [h17]; exact h6.1
  · obtain ⟨q1, q2⟩ := h6.2 m V N hm hK
    exact ⟨q1.fr (fr _ (by omega)) (fr _ (by omega)) (fr _ (by omega)), q2.fr (fr _ (by omega)) (fr _ (by omega)) (fr _ (by omega)) (fr _ (by omega))⟩
  · unfold zWc at *
    rw [fr r.2.2.1 (by omega), fr (r.2.2.1 + 1) (by omega), fr (r.2.2.1 + 2) (by omega), fr (r.2.2.1 + 3) (by omega), fr (r.2.2.1 + 4) (by omega)]
    exact h7
  · unfold zTc at *
    rw [fr 65 (by omega), fr 66 (by omega)]
    exact h8
  · unfold zQc at *
    rw [hJ (r.1 + 8) (by omega) (by omega) (by omega)]
    exact h9
  · unfold zYc zYs at *
    rw [fr 77 (by omega), fr 78 (by omega), fr 81 (by omega), fr 82 (by omega), hJ 77 (by omega) (by omega) (by omega)]
    exact h10
theorem zRm.up (hX : zXw t X) (h : zRm X I J) (h0 : ∀ k, k = 2 ∨ k = 18 → I' 216 k = I 216 k) (h1 : ∀ o, (217 ≤ o ∧ o ≤ 229) ∨ o = 233 → I' o = I o) (h7 : ∀ k, 16 ≤ k → k < 200 → I' 232 k = I 232 k) (j1 : J' 221 = J 221) (j2 : J' 225 = J 225) (hV : zVm 0 I' V') (hL : zPq I' L') : zRm (xU X V' L') I' J' := by
  obtain ⟨g1, g2, g3, g4, g5, g6, g7, g8, g9⟩ := h
  obtain ⟨x1, x2, x3, ⟨x4, x4'⟩, x5, ⟨x6, x6'⟩, x7, x8⟩ := hX
  refine ⟨g1.fr (h1 222 (by omega)) (h1 223 (by omega)) (h1 224 (by omega)), hV, g3.fr x3.1 x3.2.1 (fun k q1 q2 => h7 k (by omega) (by omega)), hL, ⟨fun m hm => by rw [h1 233 (by omega)]; exact g5.1 m hm, fun m V N hm hK => ?_⟩, ?_, ⟨?_, ?_⟩, ⟨?_, ?_⟩, ?_⟩
  · obtain ⟨q1, q2⟩ := g5.2 m V N hm hK
    have hN := (x5 m V N hK).2
    exact ⟨q1.rg (fun k w1 w2 => h7 k (by omega) (by omega)), q2.fr hN.1 hN.2.1 (fun k w1 w2 => h7 k (by omega) (by omega))⟩
  · unfold zWm at *
    rw [h1 229 (by omega)]
    exact g6
  · rw [h0 2 (by omega)]; exact g7.1
  · rw [h1 217 (by omega)]; exact g7.2
  · rw [h0 18 (by omega)]; exact g8.1
  · rw [h1 227 (by omega), j2]; exact g8.2
  · unfold zQq at *
    rw [j1]; exact g9
end ZF
section ZO
variable {sc : zX} {t : Nat} {X : zXs}
/-- a call that says no on both sides -/
theorem zOK_no {fx fm : zH → Option (Int32 × zH)} {v : Int32} (hX : zXw t X) (hc : ∀ I J a b w v' wd, zRc X I J (a, b, w, v', wd) → fx (zG I J (a, b, w, v', wd)) = some (v, zG I J (a, b, w, v', wd))) (hm : ∀ I J r, zRm X (zU I 216 0 (zn 0)) J → fm (zG I J r) = some (v, zG (zU I 216 0 (zn 0)) J r)) : zOK t X fx fm := by
  refine zOK_of (v := v) hX (hX.mono (by omega)) ?_ ?_
  · rintro I J ⟨a, b, w, v', wd⟩ h
    exact ⟨I, J, (a, b, w, v', wd), hc I J a b w v' wd h, h, fun o _ => ⟨rfl, rfl⟩⟩
  · intro I J r h
    have h1 := h.th hX (x := zn 0)
    exact ⟨_, J, hm I J r h1, h1, fun o ho => ⟨zU_ne (by omega), rfl⟩⟩
end ZO
