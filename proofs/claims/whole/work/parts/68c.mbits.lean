/-! how many bits: the reference -/
section ZO
variable {sc : zX} {h : zH}
theorem zbits_d : ∀ S, S < 64 → zfo (fun j s => s + ((zn S >>> (zn j &&& 31)) &&& zn 1)) 30 0 (zn 0) = zn (zbc S) := by decide +kernel
theorem mbits_e {S : Nat} (hS : S < 64) : zm_bits sc (zn S) h = some (zn (zbc S), h) := by
  rw [um_bits, ← zbits_d S hS]
  refine zfold0 (fun n j s => zm_bits_l4 sc n (zn S) s (zn j) h) (fun s => some (s, h)) (fun j s => s + ((zn S >>> (zn j &&& 31)) &&& zn 1)) 30 (zn 0) (by decide) (fun n j s hj => ?_) (fun n s => ?_)
  · (try dsimp only)
    rw [um_bits_l4, if_neg (by rw [zn_le (by omega) (by omega)]; omega), zn_add]
  · (try dsimp only)
    rw [um_bits_l4, if_pos (by decide)]
end ZO
