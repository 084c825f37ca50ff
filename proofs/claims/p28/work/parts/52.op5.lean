/-! calls: what scans tell -/
theorem mr_msb {x : Int32} : x.toBitVec.msb = decide (x.toInt < 0) := BitVec.msb_eq_toInt
theorem mc_na_ne {s n j x : Nat} (hs : 3 ≤ s) (hx : x < mc_nn s n j) : mc_na s j x ≠ j := by
  have hb : mc_pb s j ≠ j := by
    unfold mc_pb
    split
    · omega
    · rename_i h
      have : j ≠ 0 := fun q_ => h (by rw [q_]; exact Nat.zero_mod s)
      omega
  have hf : mc_pf s j ≠ j := by
    unfold mc_pf
    split
    · rename_i h
      by_cases c0 : j + 1 < s
      · rw [Nat.mod_eq_of_lt c0] at h; omega
      · omega
    · omega
  have hm1 : min (mc_pb s j) (mc_pf s j) ≠ j := by omega
  have hm2 : max (mc_pb s j) (mc_pf s j) ≠ j := by omega
  unfold mc_na
  by_cases c1 : j < s
  · rw [if_pos c1]
    split
    · exact hm1
    · split
      · exact hm2
      · omega
  · rw [if_neg c1]
    split
    · omega
    · split
      · exact hm1
      · split
        · exact hm2
        · omega
section O5
variable {X : mj_X} {S : List (Nat × Nat)} {f F F2 : mj_F} {g G : mj_G} {r s n c H H2 z L j k d m : Nat} {sc sp : Nat → Nat} {D E : Nat → Int32} {Ds : Nat → Nat → Int32} {t : Nat → Int32} {w v a b e : Int32} {o2 o3 o4 : Option mj_V}
end O5
