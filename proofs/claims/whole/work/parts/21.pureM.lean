theorem sg_lt1 {a b : Int32} (h : ¬ b ≤ a) : sg a b = -1 := (sg_l h).symm
theorem sg_n1 {a b : Int32} (h : b ≤ a) (h2 : ¬ a = b) : sg a b = 1 := by
  rw [sg_ne h2, if_neg]
  rw [ti_le] at h; rw [ti_lt]; omega
theorem snF_0 {v k : Nat → Int32} {nv nk : Nat} (h : dg v nv = 0 ∨ dg k nk = 0) : snF v k nv nk = (if dg v nv = dg k nk then 0 else if dg v nv = 0 then 1 else -1) := if_pos h
theorem snF_ne {v k : Nat → Int32} {nv nk : Nat} (h : ¬ (dg v nv = 0 ∨ dg k nk = 0)) (h2 : ¬ nI (dg v nv - zr v (dg v nv)) = nI (dg k nk - zr k (dg k nk))) : snF v k nv nk = sg (nI (dg v nv - zr v (dg v nv))) (nI (dg k nk - zr k (dg k nk))) := by
  unfold snF; rw [if_neg h, if_neg (fun q => h2 (sg_0.mp q))]
theorem snF_eq {v k : Nat → Int32} {nv nk : Nat} (h : ¬ (dg v nv = 0 ∨ dg k nk = 0)) (h2 : nI (dg v nv - zr v (dg v nv)) = nI (dg k nk - zr k (dg k nk))) : snF v k nv nk = snA v k (dg v nv - zr v (dg v nv)) (zr v (dg v nv)) (zr k (dg k nk)) := by
  unfold snF; rw [if_neg h, if_pos (sg_0.mpr h2)]
