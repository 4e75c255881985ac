/-! what a method's list says, its bytes say; further words of methods by their number -/
def zq_dk (q : zq_I) (l : List (Nat × Instr × Nat)) : Prop := ∀ e ∈ l, decode q.2.1 e.1 = .ok e.2
theorem zq_zip {α β : Type} {P : α → β → Prop} (d : β) : ∀ (a : List α) (b : List β), (∀ x ∈ a.zip b, P x.1 x.2) → a.length = b.length → ∀ (i : Nat) (q : α), a[i]? = some q → P q (b.getD i d)
  | [], b, _, _, i, q, hq => by simp at hq
  | x :: a, [], _, hl, _, _, _ => by simp at hl
  | x :: a, y :: b, h, hl, i, q, hq => by
    cases i with
    | zero =>
      have h1 : x = q := by simpa using hq
      subst h1
      exact h (x, y) List.mem_cons_self
    | succ j =>
      have h2 := zq_zip d a b (fun z hz => h z (List.mem_cons_of_mem _ hz)) (by simpa using hl) j q (by simpa using hq)
      simpa using h2
theorem zq_blk {α : Type} : ∀ (L : List (List α)) (k : Nat) (q : α), (∀ b ∈ L.dropLast, b.length = 16) → L.flatten[k]? = some q → (L.getD (k / 16) [])[k % 16]? = some q ∨ ∃ b, L.getLast? = some b ∧ 16 < b.length
  | [], k, q, _, h => by simp at h
  | [b], k, q, _, h => by
    by_cases hb : 16 < b.length
    · exact Or.inr ⟨b, rfl, hb⟩
    · have h1 : b[k]? = some q := by simpa using h
      have hk : k < b.length := (List.getElem?_eq_some_iff.mp h1).1
      refine Or.inl ?_
      rw [Nat.div_eq_of_lt (by omega), Nat.mod_eq_of_lt (by omega)]
      exact h1
  | b :: b2 :: L, k, q, hL, h => by
    have hb : b.length = 16 := hL b (by simp)
    rw [List.flatten_cons, List.getElem?_append] at h
    by_cases hk : k < 16
    · rw [if_pos (by omega)] at h
      refine Or.inl ?_
      rw [Nat.div_eq_of_lt hk, Nat.mod_eq_of_lt hk]
      exact h
    · rw [if_neg (by omega), hb] at h
      rcases zq_blk (b2 :: L) (k - 16) q (fun x hx => hL x (by rw [List.dropLast_cons₂]; exact List.mem_cons_of_mem _ hx)) h with h2 | ⟨x, hx, hx2⟩
      · refine Or.inl ?_
        have e1 : k / 16 = (k - 16) / 16 + 1 := by omega
        have e2 : k % 16 = (k - 16) % 16 := by omega
        rw [e1, e2]
        simpa using h2
      · exact Or.inr ⟨x, by simpa using hx, hx2⟩
def zq_MTs : List (List zq_I) := [zq_MT0, zq_MT1, zq_MT2, zq_MT3, zq_MT4, zq_MT5, zq_MT6, zq_MT7, zq_MT8, zq_MT9, zq_MT10, zq_MT11, zq_MT12, zq_MT13, zq_MT14, zq_MT15, zq_MT16]
theorem zq_MTf : zq_MT = zq_MTs.flatten := by
  simp only [zq_MT, zq_MTs, List.flatten_cons, List.flatten_nil, List.append_nil]
theorem zq_MTl : (∀ b ∈ zq_MTs.dropLast, b.length = 16) ∧ ∀ b, zq_MTs.getLast? = some b → ¬ 16 < b.length := by
  refine ⟨?_, fun b hb => ?_⟩
  · intro b hb
    simp only [zq_MTs, List.dropLast, List.mem_cons, List.not_mem_nil, or_false] at hb
    rcases hb with rfl | rfl | rfl | rfl | rfl | rfl | rfl | rfl | rfl | rfl | rfl | rfl | rfl | rfl | rfl | rfl <;> rfl
  · have hb2 : b = zq_MT16 := by
      simp [zq_MTs] at hb
      exact hb.symm
    rw [hb2]
    show ¬ 16 < 9
    decide
theorem zq_dg0 : ∀ x ∈ zq_MT0.zip zq_Lg0, zq_dk x.1 x.2 := List.forall_mem_cons.mpr ⟨zq_d0, List.forall_mem_cons.mpr ⟨zq_d1, List.forall_mem_cons.mpr ⟨zq_d2, List.forall_mem_cons.mpr ⟨zq_d3, List.forall_mem_cons.mpr ⟨zq_d4, List.forall_mem_cons.mpr ⟨zq_d5, List.forall_mem_cons.mpr ⟨zq_d6, List.forall_mem_cons.mpr ⟨zq_d7, List.forall_mem_cons.mpr ⟨zq_d8, List.forall_mem_cons.mpr ⟨zq_d9, List.forall_mem_cons.mpr ⟨zq_d10, List.forall_mem_cons.mpr ⟨zq_d11, List.forall_mem_cons.mpr ⟨zq_d12, List.forall_mem_cons.mpr ⟨zq_d13, List.forall_mem_cons.mpr ⟨zq_d14, List.forall_mem_cons.mpr ⟨zq_d15, fun _ h => absurd h List.not_mem_nil⟩⟩⟩⟩⟩⟩⟩⟩⟩⟩⟩⟩⟩⟩⟩⟩
theorem zq_dg1 : ∀ x ∈ zq_MT1.zip zq_Lg1, zq_dk x.1 x.2 := List.forall_mem_cons.mpr ⟨zq_d16, List.forall_mem_cons.mpr ⟨zq_d17, List.forall_mem_cons.mpr ⟨zq_d18, List.forall_mem_cons.mpr ⟨zq_d19, List.forall_mem_cons.mpr ⟨zq_d20, List.forall_mem_cons.mpr ⟨zq_d21, List.forall_mem_cons.mpr ⟨zq_d22, List.forall_mem_cons.mpr ⟨zq_d23, List.forall_mem_cons.mpr ⟨zq_d24, List.forall_mem_cons.mpr ⟨zq_d25, List.forall_mem_cons.mpr ⟨zq_d26, List.forall_mem_cons.mpr ⟨zq_d27, List.forall_mem_cons.mpr ⟨zq_d28, List.forall_mem_cons.mpr ⟨zq_d29, List.forall_mem_cons.mpr ⟨zq_d30, List.forall_mem_cons.mpr ⟨zq_d31, fun _ h => absurd h List.not_mem_nil⟩⟩⟩⟩⟩⟩⟩⟩⟩⟩⟩⟩⟩⟩⟩⟩
theorem zq_dg2 : ∀ x ∈ zq_MT2.zip zq_Lg2, zq_dk x.1 x.2 := List.forall_mem_cons.mpr ⟨zq_d32, List.forall_mem_cons.mpr ⟨zq_d33, List.forall_mem_cons.mpr ⟨zq_d34, List.forall_mem_cons.mpr ⟨zq_d35, List.forall_mem_cons.mpr ⟨zq_d36, List.forall_mem_cons.mpr ⟨zq_d37, List.forall_mem_cons.mpr ⟨zq_d38, List.forall_mem_cons.mpr ⟨zq_d39, List.forall_mem_cons.mpr ⟨zq_d40, List.forall_mem_cons.mpr ⟨zq_d41, List.forall_mem_cons.mpr ⟨zq_d42, List.forall_mem_cons.mpr ⟨zq_d43, List.forall_mem_cons.mpr ⟨zq_d44, List.forall_mem_cons.mpr ⟨zq_d45, List.forall_mem_cons.mpr ⟨zq_d46, List.forall_mem_cons.mpr ⟨zq_d47, fun _ h => absurd h List.not_mem_nil⟩⟩⟩⟩⟩⟩⟩⟩⟩⟩⟩⟩⟩⟩⟩⟩
theorem zq_dg3 : ∀ x ∈ zq_MT3.zip zq_Lg3, zq_dk x.1 x.2 := List.forall_mem_cons.mpr ⟨zq_d48, List.forall_mem_cons.mpr ⟨zq_d49, List.forall_mem_cons.mpr ⟨zq_d50, List.forall_mem_cons.mpr ⟨zq_d51, List.forall_mem_cons.mpr ⟨zq_d52, List.forall_mem_cons.mpr ⟨zq_d53, List.forall_mem_cons.mpr ⟨zq_d54, List.forall_mem_cons.mpr ⟨zq_d55, List.forall_mem_cons.mpr ⟨zq_d56, List.forall_mem_cons.mpr ⟨zq_d57, List.forall_mem_cons.mpr ⟨zq_d58, List.forall_mem_cons.mpr ⟨zq_d59, List.forall_mem_cons.mpr ⟨zq_d60, List.forall_mem_cons.mpr ⟨zq_d61, List.forall_mem_cons.mpr ⟨zq_d62, List.forall_mem_cons.mpr ⟨zq_d63, fun _ h => absurd h List.not_mem_nil⟩⟩⟩⟩⟩⟩⟩⟩⟩⟩⟩⟩⟩⟩⟩⟩
theorem zq_dg4 : ∀ x ∈ zq_MT4.zip zq_Lg4, zq_dk x.1 x.2 := List.forall_mem_cons.mpr ⟨zq_d64, List.forall_mem_cons.mpr ⟨zq_d65, List.forall_mem_cons.mpr ⟨zq_d66, List.forall_mem_cons.mpr ⟨zq_d67, List.forall_mem_cons.mpr ⟨zq_d68, List.forall_mem_cons.mpr ⟨zq_d69, List.forall_mem_cons.mpr ⟨zq_d70, List.forall_mem_cons.mpr ⟨zq_d71, List.forall_mem_cons.mpr ⟨zq_d72, List.forall_mem_cons.mpr ⟨zq_d73, List.forall_mem_cons.mpr ⟨zq_d74, List.forall_mem_cons.mpr ⟨zq_d75, List.forall_mem_cons.mpr ⟨zq_d76, List.forall_mem_cons.mpr ⟨zq_d77, List.forall_mem_cons.mpr ⟨zq_d78, List.forall_mem_cons.mpr ⟨zq_d79, fun _ h => absurd h List.not_mem_nil⟩⟩⟩⟩⟩⟩⟩⟩⟩⟩⟩⟩⟩⟩⟩⟩
theorem zq_dg5 : ∀ x ∈ zq_MT5.zip zq_Lg5, zq_dk x.1 x.2 := List.forall_mem_cons.mpr ⟨zq_d80, List.forall_mem_cons.mpr ⟨zq_d81, List.forall_mem_cons.mpr ⟨zq_d82, List.forall_mem_cons.mpr ⟨zq_d83, List.forall_mem_cons.mpr ⟨zq_d84, List.forall_mem_cons.mpr ⟨zq_d85, List.forall_mem_cons.mpr ⟨zq_d86, List.forall_mem_cons.mpr ⟨zq_d87, List.forall_mem_cons.mpr ⟨zq_d88, List.forall_mem_cons.mpr ⟨zq_d89, List.forall_mem_cons.mpr ⟨zq_d90, List.forall_mem_cons.mpr ⟨zq_d91, List.forall_mem_cons.mpr ⟨zq_d92, List.forall_mem_cons.mpr ⟨zq_d93, List.forall_mem_cons.mpr ⟨zq_d94, List.forall_mem_cons.mpr ⟨zq_d95, fun _ h => absurd h List.not_mem_nil⟩⟩⟩⟩⟩⟩⟩⟩⟩⟩⟩⟩⟩⟩⟩⟩
theorem zq_dg6 : ∀ x ∈ zq_MT6.zip zq_Lg6, zq_dk x.1 x.2 := List.forall_mem_cons.mpr ⟨zq_d96, List.forall_mem_cons.mpr ⟨zq_d97, List.forall_mem_cons.mpr ⟨zq_d98, List.forall_mem_cons.mpr ⟨zq_d99, List.forall_mem_cons.mpr ⟨zq_d100, List.forall_mem_cons.mpr ⟨zq_d101, List.forall_mem_cons.mpr ⟨zq_d102, List.forall_mem_cons.mpr ⟨zq_d103, List.forall_mem_cons.mpr ⟨zq_d104, List.forall_mem_cons.mpr ⟨zq_d105, List.forall_mem_cons.mpr ⟨zq_d106, List.forall_mem_cons.mpr ⟨zq_d107, List.forall_mem_cons.mpr ⟨zq_d108, List.forall_mem_cons.mpr ⟨zq_d109, List.forall_mem_cons.mpr ⟨zq_d110, List.forall_mem_cons.mpr ⟨zq_d111, fun _ h => absurd h List.not_mem_nil⟩⟩⟩⟩⟩⟩⟩⟩⟩⟩⟩⟩⟩⟩⟩⟩
theorem zq_dg7 : ∀ x ∈ zq_MT7.zip zq_Lg7, zq_dk x.1 x.2 := List.forall_mem_cons.mpr ⟨zq_d112, List.forall_mem_cons.mpr ⟨zq_d113, List.forall_mem_cons.mpr ⟨zq_d114, List.forall_mem_cons.mpr ⟨zq_d115, List.forall_mem_cons.mpr ⟨zq_d116, List.forall_mem_cons.mpr ⟨zq_d117, List.forall_mem_cons.mpr ⟨zq_d118, List.forall_mem_cons.mpr ⟨zq_d119, List.forall_mem_cons.mpr ⟨zq_d120, List.forall_mem_cons.mpr ⟨zq_d121, List.forall_mem_cons.mpr ⟨zq_d122, List.forall_mem_cons.mpr ⟨zq_d123, List.forall_mem_cons.mpr ⟨zq_d124, List.forall_mem_cons.mpr ⟨zq_d125, List.forall_mem_cons.mpr ⟨zq_d126, List.forall_mem_cons.mpr ⟨zq_d127, fun _ h => absurd h List.not_mem_nil⟩⟩⟩⟩⟩⟩⟩⟩⟩⟩⟩⟩⟩⟩⟩⟩
theorem zq_dg8 : ∀ x ∈ zq_MT8.zip zq_Lg8, zq_dk x.1 x.2 := List.forall_mem_cons.mpr ⟨zq_d128, List.forall_mem_cons.mpr ⟨zq_d129, List.forall_mem_cons.mpr ⟨zq_d130, List.forall_mem_cons.mpr ⟨zq_d131, List.forall_mem_cons.mpr ⟨zq_d132, List.forall_mem_cons.mpr ⟨zq_d133, List.forall_mem_cons.mpr ⟨zq_d134, List.forall_mem_cons.mpr ⟨zq_d135, List.forall_mem_cons.mpr ⟨zq_d136, List.forall_mem_cons.mpr ⟨zq_d137, List.forall_mem_cons.mpr ⟨zq_d138, List.forall_mem_cons.mpr ⟨zq_d139, List.forall_mem_cons.mpr ⟨zq_d140, List.forall_mem_cons.mpr ⟨zq_d141, List.forall_mem_cons.mpr ⟨zq_d142, List.forall_mem_cons.mpr ⟨zq_d143, fun _ h => absurd h List.not_mem_nil⟩⟩⟩⟩⟩⟩⟩⟩⟩⟩⟩⟩⟩⟩⟩⟩
theorem zq_dg9 : ∀ x ∈ zq_MT9.zip zq_Lg9, zq_dk x.1 x.2 := List.forall_mem_cons.mpr ⟨zq_d144, List.forall_mem_cons.mpr ⟨zq_d145, List.forall_mem_cons.mpr ⟨zq_d146, List.forall_mem_cons.mpr ⟨zq_d147, List.forall_mem_cons.mpr ⟨zq_d148, List.forall_mem_cons.mpr ⟨zq_d149, List.forall_mem_cons.mpr ⟨zq_d150, List.forall_mem_cons.mpr ⟨zq_d151, List.forall_mem_cons.mpr ⟨zq_d152, List.forall_mem_cons.mpr ⟨zq_d153, List.forall_mem_cons.mpr ⟨zq_d154, List.forall_mem_cons.mpr ⟨zq_d155, List.forall_mem_cons.mpr ⟨zq_d156, List.forall_mem_cons.mpr ⟨zq_d157, List.forall_mem_cons.mpr ⟨zq_d158, List.forall_mem_cons.mpr ⟨zq_d159, fun _ h => absurd h List.not_mem_nil⟩⟩⟩⟩⟩⟩⟩⟩⟩⟩⟩⟩⟩⟩⟩⟩
theorem zq_dg10 : ∀ x ∈ zq_MT10.zip zq_Lg10, zq_dk x.1 x.2 := List.forall_mem_cons.mpr ⟨zq_d160, List.forall_mem_cons.mpr ⟨zq_d161, List.forall_mem_cons.mpr ⟨zq_d162, List.forall_mem_cons.mpr ⟨zq_d163, List.forall_mem_cons.mpr ⟨zq_d164, List.forall_mem_cons.mpr ⟨zq_d165, List.forall_mem_cons.mpr ⟨zq_d166, List.forall_mem_cons.mpr ⟨zq_d167, List.forall_mem_cons.mpr ⟨zq_d168, List.forall_mem_cons.mpr ⟨zq_d169, List.forall_mem_cons.mpr ⟨zq_d170, List.forall_mem_cons.mpr ⟨zq_d171, List.forall_mem_cons.mpr ⟨zq_d172, List.forall_mem_cons.mpr ⟨zq_d173, List.forall_mem_cons.mpr ⟨zq_d174, List.forall_mem_cons.mpr ⟨zq_d175, fun _ h => absurd h List.not_mem_nil⟩⟩⟩⟩⟩⟩⟩⟩⟩⟩⟩⟩⟩⟩⟩⟩
theorem zq_dg11 : ∀ x ∈ zq_MT11.zip zq_Lg11, zq_dk x.1 x.2 := List.forall_mem_cons.mpr ⟨zq_d176, List.forall_mem_cons.mpr ⟨zq_d177, List.forall_mem_cons.mpr ⟨zq_d178, List.forall_mem_cons.mpr ⟨zq_d179, List.forall_mem_cons.mpr ⟨zq_d180, List.forall_mem_cons.mpr ⟨zq_d181, List.forall_mem_cons.mpr ⟨zq_d182, List.forall_mem_cons.mpr ⟨zq_d183, List.forall_mem_cons.mpr ⟨zq_d184, List.forall_mem_cons.mpr ⟨zq_d185, List.forall_mem_cons.mpr ⟨zq_d186, List.forall_mem_cons.mpr ⟨zq_d187, List.forall_mem_cons.mpr ⟨zq_d188, List.forall_mem_cons.mpr ⟨zq_d189, List.forall_mem_cons.mpr ⟨zq_d190, List.forall_mem_cons.mpr ⟨zq_d191, fun _ h => absurd h List.not_mem_nil⟩⟩⟩⟩⟩⟩⟩⟩⟩⟩⟩⟩⟩⟩⟩⟩
theorem zq_dg12 : ∀ x ∈ zq_MT12.zip zq_Lg12, zq_dk x.1 x.2 := List.forall_mem_cons.mpr ⟨zq_d192, List.forall_mem_cons.mpr ⟨zq_d193, List.forall_mem_cons.mpr ⟨zq_d194, List.forall_mem_cons.mpr ⟨zq_d195, List.forall_mem_cons.mpr ⟨zq_d196, List.forall_mem_cons.mpr ⟨zq_d197, List.forall_mem_cons.mpr ⟨zq_d198, List.forall_mem_cons.mpr ⟨zq_d199, List.forall_mem_cons.mpr ⟨zq_d200, List.forall_mem_cons.mpr ⟨zq_d201, List.forall_mem_cons.mpr ⟨zq_d202, List.forall_mem_cons.mpr ⟨zq_d203, List.forall_mem_cons.mpr ⟨zq_d204, List.forall_mem_cons.mpr ⟨zq_d205, List.forall_mem_cons.mpr ⟨zq_d206, List.forall_mem_cons.mpr ⟨zq_d207, fun _ h => absurd h List.not_mem_nil⟩⟩⟩⟩⟩⟩⟩⟩⟩⟩⟩⟩⟩⟩⟩⟩
theorem zq_dg13 : ∀ x ∈ zq_MT13.zip zq_Lg13, zq_dk x.1 x.2 := List.forall_mem_cons.mpr ⟨zq_d208, List.forall_mem_cons.mpr ⟨zq_d209, List.forall_mem_cons.mpr ⟨zq_d210, List.forall_mem_cons.mpr ⟨zq_d211, List.forall_mem_cons.mpr ⟨zq_d212, List.forall_mem_cons.mpr ⟨zq_d213, List.forall_mem_cons.mpr ⟨zq_d214, List.forall_mem_cons.mpr ⟨zq_d215, List.forall_mem_cons.mpr ⟨zq_d216, List.forall_mem_cons.mpr ⟨zq_d217, List.forall_mem_cons.mpr ⟨zq_d218, List.forall_mem_cons.mpr ⟨zq_d219, List.forall_mem_cons.mpr ⟨zq_d220, List.forall_mem_cons.mpr ⟨zq_d221, List.forall_mem_cons.mpr ⟨zq_d222, List.forall_mem_cons.mpr ⟨zq_d223, fun _ h => absurd h List.not_mem_nil⟩⟩⟩⟩⟩⟩⟩⟩⟩⟩⟩⟩⟩⟩⟩⟩
theorem zq_dg14 : ∀ x ∈ zq_MT14.zip zq_Lg14, zq_dk x.1 x.2 := List.forall_mem_cons.mpr ⟨zq_d224, List.forall_mem_cons.mpr ⟨zq_d225, List.forall_mem_cons.mpr ⟨zq_d226, List.forall_mem_cons.mpr ⟨zq_d227, List.forall_mem_cons.mpr ⟨zq_d228, List.forall_mem_cons.mpr ⟨zq_d229, List.forall_mem_cons.mpr ⟨zq_d230, List.forall_mem_cons.mpr ⟨zq_d231, List.forall_mem_cons.mpr ⟨zq_d232, List.forall_mem_cons.mpr ⟨zq_d233, List.forall_mem_cons.mpr ⟨zq_d234, List.forall_mem_cons.mpr ⟨zq_d235, List.forall_mem_cons.mpr ⟨zq_d236, List.forall_mem_cons.mpr ⟨zq_d237, List.forall_mem_cons.mpr ⟨zq_d238, List.forall_mem_cons.mpr ⟨zq_d239, fun _ h => absurd h List.not_mem_nil⟩⟩⟩⟩⟩⟩⟩⟩⟩⟩⟩⟩⟩⟩⟩⟩
theorem zq_dg15 : ∀ x ∈ zq_MT15.zip zq_Lg15, zq_dk x.1 x.2 := List.forall_mem_cons.mpr ⟨zq_d240, List.forall_mem_cons.mpr ⟨zq_d241, List.forall_mem_cons.mpr ⟨zq_d242, List.forall_mem_cons.mpr ⟨zq_d243, List.forall_mem_cons.mpr ⟨zq_d244, List.forall_mem_cons.mpr ⟨zq_d245, List.forall_mem_cons.mpr ⟨zq_d246, List.forall_mem_cons.mpr ⟨zq_d247, List.forall_mem_cons.mpr ⟨zq_d248, List.forall_mem_cons.mpr ⟨zq_d249, List.forall_mem_cons.mpr ⟨zq_d250, List.forall_mem_cons.mpr ⟨zq_d251, List.forall_mem_cons.mpr ⟨zq_d252, List.forall_mem_cons.mpr ⟨zq_d253, List.forall_mem_cons.mpr ⟨zq_d254, List.forall_mem_cons.mpr ⟨zq_d255, fun _ h => absurd h List.not_mem_nil⟩⟩⟩⟩⟩⟩⟩⟩⟩⟩⟩⟩⟩⟩⟩⟩
theorem zq_dg16 : ∀ x ∈ zq_MT16.zip zq_Lg16, zq_dk x.1 x.2 := List.forall_mem_cons.mpr ⟨zq_d256, List.forall_mem_cons.mpr ⟨zq_d257, List.forall_mem_cons.mpr ⟨zq_d258, List.forall_mem_cons.mpr ⟨zq_d259, List.forall_mem_cons.mpr ⟨zq_d260, List.forall_mem_cons.mpr ⟨zq_d261, List.forall_mem_cons.mpr ⟨zq_d262, List.forall_mem_cons.mpr ⟨zq_d263, List.forall_mem_cons.mpr ⟨zq_d264, fun _ h => absurd h List.not_mem_nil⟩⟩⟩⟩⟩⟩⟩⟩⟩
theorem zq_dgs : ∀ x ∈ zq_MTs.zip zq_Lgs, (∀ y ∈ x.1.zip x.2, zq_dk y.1 y.2) ∧ x.1.length = x.2.length := List.forall_mem_cons.mpr ⟨⟨zq_dg0, rfl⟩, List.forall_mem_cons.mpr ⟨⟨zq_dg1, rfl⟩, List.forall_mem_cons.mpr ⟨⟨zq_dg2, rfl⟩, List.forall_mem_cons.mpr ⟨⟨zq_dg3, rfl⟩, List.forall_mem_cons.mpr ⟨⟨zq_dg4, rfl⟩, List.forall_mem_cons.mpr ⟨⟨zq_dg5, rfl⟩, List.forall_mem_cons.mpr ⟨⟨zq_dg6, rfl⟩, List.forall_mem_cons.mpr ⟨⟨zq_dg7, rfl⟩, List.forall_mem_cons.mpr ⟨⟨zq_dg8, rfl⟩, List.forall_mem_cons.mpr ⟨⟨zq_dg9, rfl⟩, List.forall_mem_cons.mpr ⟨⟨zq_dg10, rfl⟩, List.forall_mem_cons.mpr ⟨⟨zq_dg11, rfl⟩, List.forall_mem_cons.mpr ⟨⟨zq_dg12, rfl⟩, List.forall_mem_cons.mpr ⟨⟨zq_dg13, rfl⟩, List.forall_mem_cons.mpr ⟨⟨zq_dg14, rfl⟩, List.forall_mem_cons.mpr ⟨⟨zq_dg15, rfl⟩, List.forall_mem_cons.mpr ⟨⟨zq_dg16, rfl⟩, fun _ h => absurd h List.not_mem_nil⟩⟩⟩⟩⟩⟩⟩⟩⟩⟩⟩⟩⟩⟩⟩⟩⟩
theorem zq_lnkg : ∀ b ∈ zq_Lgs, ∀ l ∈ b, ∀ e ∈ l, zq_lnk e.2.1 e.2.2 = true := by decide +kernel
theorem zq_lnkw : ∀ e ∈ zq_L265, zq_lnk e.2.1 e.2.2 = true := by decide +kernel
theorem zq_MTlen : zq_MT.length = 265 := by
  simp only [zq_MT, List.length_append, zq_MT0, zq_MT1, zq_MT2, zq_MT3, zq_MT4, zq_MT5, zq_MT6, zq_MT7, zq_MT8, zq_MT9, zq_MT10, zq_MT11, zq_MT12, zq_MT13, zq_MT14, zq_MT15, zq_MT16, List.length_cons, List.length_nil]
theorem zq_dec0 {b : List zq_I} {LL : List (List (Nat × Instr × Nat))} {i : Nat} {q : zq_I} {pc : Nat} {x : Instr × Nat} (h1 : b[i]? = some q) (h2 : (∀ y ∈ b.zip LL, zq_dk y.1 y.2) ∧ b.length = LL.length) (hk : ∀ l ∈ LL, ∀ e ∈ l, zq_lnk e.2.1 e.2.2 = true) (hm : (pc, x) ∈ LL.getD i []) : decode q.2.1 pc = .ok x ∧ zq_lnk x.1 x.2 = true := by
  have h3 : zq_dk q (LL.getD i []) := zq_zip (P := zq_dk) [] b LL h2.1 h2.2 i q h1
  have h4 := h3 (pc, x) hm
  refine ⟨h4, ?_⟩
  rw [List.getD_eq_getElem?_getD] at hm
  cases hx : LL[i]? with
  | none => rw [hx] at hm; simp at hm
  | some l =>
    rw [hx] at hm
    exact hk l (List.mem_of_getElem? hx) (pc, x) hm
theorem zq_lnkd (g : Nat) : ∀ l ∈ zq_Lgs.getD g [], ∀ e ∈ l, zq_lnk e.2.1 e.2.2 = true := by
  intro l hl
  rw [List.getD_eq_getElem?_getD] at hl
  cases hx : zq_Lgs[g]? with
  | none => rw [hx] at hl; simp at hl
  | some b => rw [hx] at hl; exact zq_lnkg b (List.mem_of_getElem? hx) l hl
/-- an instruction of a method, out of its list -/
theorem zq_dec {k : Nat} {q : zq_I} (hq : zq_MT[k]? = some q) {pc : Nat} {x : Instr × Nat} (hc : zq_code k pc = some x) : decode q.2.1 pc = .ok x ∧ zq_lnk x.1 x.2 = true := by
  have hk : k < 265 := by rw [← zq_MTlen]; exact (List.getElem?_eq_some_iff.mp hq).1
  have hc2 : zq_cd k = (zq_Lgs.getD (k / 16) []).getD (k % 16) [] := if_neg (show ¬ k = 265 by omega)
  have hm : (pc, x) ∈ zq_cd k := zq_lk hc
  rw [hc2] at hm
  rw [zq_MTf] at hq
  rcases zq_blk zq_MTs k q zq_MTl.1 hq with h1 | ⟨b, hb, hb2⟩
  · cases hg : zq_MTs[k / 16]? with
    | none =>
      rw [List.getD_eq_getElem?_getD, hg] at h1
      simp at h1
    | some b =>
      rw [List.getD_eq_getElem?_getD, hg] at h1
      exact zq_dec0 (b := b) h1 (zq_zip (P := fun (a : List zq_I) (c : List (List (Nat × Instr × Nat))) => (∀ y ∈ a.zip c, zq_dk y.1 y.2) ∧ a.length = c.length) [] zq_MTs zq_Lgs zq_dgs rfl (k / 16) b hg) (zq_lnkd (k / 16)) hm
  · exact absurd hb2 (zq_MTl.2 b hb)
theorem zq_mkg : ∀ b, b < 17 → ∀ i, i < (zq_MTs.getD b []).length → zq_mchk ((zq_MTs.getD b []).getD i zq_m0) (zq_mp.getD (i + b * 16) (0, 0, 0)) = true := by
  intro b hb
  match b, hb with
  | 0, _ => exact zq_mk0
  | 1, _ => exact zq_mk1
  | 2, _ => exact zq_mk2
  | 3, _ => exact zq_mk3
  | 4, _ => exact zq_mk4
  | 5, _ => exact zq_mk5
  | 6, _ => exact zq_mk6
  | 7, _ => exact zq_mk7
  | 8, _ => exact zq_mk8
  | 9, _ => exact zq_mk9
  | 10, _ => exact zq_mk10
  | 11, _ => exact zq_mk11
  | 12, _ => exact zq_mk12
  | 13, _ => exact zq_mk13
  | 14, _ => exact zq_mk14
  | 15, _ => exact zq_mk15
  | 16, _ => exact zq_mk16
  | n + 17, h => exact absurd h (by omega)
theorem zq_mok {k : Nat} {q : zq_I} (hq : zq_MT[k]? = some q) : zq_cw q ∈ zq_WG ∧ ∃ pz, zq_mchk q pz = true := by
  refine ⟨zq_cok q (List.mem_of_getElem? hq), ?_⟩
  have hk : k < 265 := by rw [← zq_MTlen]; exact (List.getElem?_eq_some_iff.mp hq).1
  rw [zq_MTf] at hq
  rcases zq_blk zq_MTs k q zq_MTl.1 hq with h1 | ⟨b, hb, hb2⟩
  · have h2 := (List.getElem?_eq_some_iff.mp h1)
    obtain ⟨h3, h4⟩ := h2
    refine ⟨zq_mp.getD (k % 16 + k / 16 * 16) (0, 0, 0), ?_⟩
    · have h5 := zq_mkg (k / 16) (by omega) (k % 16) h3
      rw [List.getD_eq_getElem?_getD (i := k % 16), h1] at h5
      exact h5
  · exact absurd hb2 (zq_MTl.2 b hb)
