/-- the entry i of a row of n entries; -1 if there is none -/
def ra (f : Nat → Int32) (n : Nat) (i : Int32) : Int32 := if 0 ≤ i.toInt ∧ i.toInt < n then f i.toNatClampNeg else -1
theorem ra_neg {f : Nat → Int32} {n : Nat} {i : Int32} (h : i < 0) : ra f n i = -1 := by
  rw [ti_lt, tc_0] at h
  exact if_neg (by omega)
theorem ra_big {f : Nat → Int32} {n : Nat} {i : Int32} (h : nI n ≤ i) (hn : n ≤ 100) : ra f n i = -1 := by
  rw [ti_le, nI_toInt (by omega)] at h
  exact if_neg (by omega)
theorem ra_ok {f : Nat → Int32} {n : Nat} {i : Int32} (h0 : ¬ i < 0) (h : ¬ nI n ≤ i) (hn : n ≤ 100) : f i.toNatClampNeg = ra f n i := by
  rw [ti_le, nI_toInt (by omega)] at h
  rw [ti_lt, tc_0] at h0
  exact (if_pos ⟨by omega, by omega⟩).symm
theorem ra_vp {n : Nat} {i : Int32} (h0 : ¬ i < 0) (h : ¬ nI n ≤ i) (hn : n ≤ 100) : vp_in i 100 := by
  rw [ti_le, nI_toInt (by omega)] at h
  rw [ti_lt, tc_0] at h0
  exact vp_of (by omega) (by omega)
theorem ra_in {f : Nat → Int32} {n j : Nat} (h : j < n) (hn : n ≤ 100) : ra f n (nI j) = f j := by
  unfold ra
  rw [nI_toInt (by omega), if_pos ⟨by omega, by omega⟩, nI_clamp (by omega)]
