/-! how many bits, how many rows -/
section ZO
variable {sc : zX} {h : zH}
def zbc (S : Nat) : Nat := ((List.range 6).filter (fun i => S.testBit i)).length
theorem bcnt_e {S : Nat} (hS : S < 64) : zj_bitCount sc (zn S) h = some (zn (zbc S), h) := by
  rw [uj_bitCount]
  congr 2
  revert S
  decide +kernel
theorem zbc_le (S : Nat) : zbc S ≤ 6 := by
  unfold zbc
  exact Nat.le_trans (List.length_filter_le _ _) (by rw [List.length_range]; exact Nat.le_refl _)
def zfak : Nat → Nat
  | 0 => 1
  | n + 1 => (n + 1) * zfak n
theorem rows_e {n : Nat} (hn : n ≤ 6) : zx_Trade_rowsOf sc (zn n) h = some (zl (zfak n), h) := by
  rcases (by omega : n = 0 ∨ n = 1 ∨ n = 2 ∨ n = 3 ∨ n = 4 ∨ n = 5 ∨ n = 6) with rfl | rfl | rfl | rfl | rfl | rfl | rfl
  all_goals
    rw [ux_Trade_rowsOf, show zo_F = 99990 + 10 from rfl]
    rfl
theorem mrows_e {n : Nat} (hn : n ≤ 6) : zm_orders0 sc (zn n) h = some (zl (zfak n), h) := by
  rcases (by omega : n = 0 ∨ n = 1 ∨ n = 2 ∨ n = 3 ∨ n = 4 ∨ n = 5 ∨ n = 6) with rfl | rfl | rfl | rfl | rfl | rfl | rfl
  all_goals
    rw [um_orders0, show zo_F = 99990 + 10 from rfl]
    rfl
end ZO
