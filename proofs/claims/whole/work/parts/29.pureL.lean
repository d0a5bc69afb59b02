/-- the rows behind a put, its answer; the lengths behind a clear -/
def puF (fv : Nat → Int32) (nv : Nat) (fk : Nat → Int32) (nk : Nat) (w : Int32) (v : Int64) (c : Int32) : ((Nat → Int32) × Nat) × ((Nat → Int32) × Nat) := if w = 0 then (apF fv nv v c, (fk, nk)) else if w = 1 then ((fv, nv), apF fk nk v c) else ((fv, nv), (fk, nk))
def puR (nv nk : Nat) (w c : Int32) : Int32 := if w = 0 then apR nv c else if w = 1 then apR nk c else 0
def clF (nv nk : Nat) (w : Int32) : Nat × Nat := if w = 0 then (0, nk) else if w = 1 then (nv, 0) else (nv, nk)
theorem puF_v {fv fk : Nat → Int32} {nv nk : Nat} {w c : Int32} {v : Int64} (hv : nv ≤ 100) : (puF fv nv fk nk w v c).1.2 ≤ 100 := by
  unfold puF
  split
  · exact apF_le hv
  · split <;> exact hv
theorem puF_k {fv fk : Nat → Int32} {nv nk : Nat} {w c : Int32} {v : Int64} (hk : nk ≤ 100) : (puF fv nv fk nk w v c).2.2 ≤ 100 := by
  unfold puF
  split
  · exact hk
  · split
    · exact apF_le hk
    · exact hk
theorem puF_r {fv fk : Nat → Int32} {nv nk : Nat} {w c : Int32} {v : Int64} (h : rng fk nk) : rng (puF fv nv fk nk w v c).2.1 (puF fv nv fk nk w v c).2.2 := by
  unfold puF
  split
  · exact h
  · split
    · exact apF_rng h
    · exact h
theorem clF_v {nv nk : Nat} {w : Int32} (hv : nv ≤ 100) : (clF nv nk w).1 ≤ 100 := by
  unfold clF
  split
  · exact Nat.zero_le _
  · split <;> exact hv
theorem clF_k {nv nk : Nat} {w : Int32} (hk : nk ≤ 100) : (clF nv nk w).2 ≤ 100 := by
  unfold clF
  split
  · exact hk
  · split
    · exact Nat.zero_le _
    · exact hk
theorem clF_r {fk : Nat → Int32} {nv nk : Nat} {w : Int32} (h : rng fk nk) : rng fk (clF nv nk w).2 := by
  unfold clF
  split
  · exact h
  · split
    · exact fun j hj => absurd hj (Nat.not_lt_zero _)
    · exact h
theorem sMat_one {v k : Nat → Int32} {nv nk : Nat} {mm c : Int32} {L L' : List (Nat × Nat)} (h : sMat v k nv nk mm c L) (h' : sMat v k nv nk mm c L') : L = L' := by
  rcases h with ⟨e, h⟩ | ⟨e, -, h⟩ | ⟨e, -, h⟩
  · have q := (sMat_0 e L').mpr h'
    rw [h.2, q.2]
  · rcases h' with ⟨e', -⟩ | ⟨-, -, h'⟩ | ⟨e', -⟩
    · rw [e] at e'; exact absurd e' (by decide)
    · obtain ⟨x, h1, h2, h3⟩ := h
      obtain ⟨y, g1, g2, g3⟩ := h'
      have := (nI_eq (a := x) (b := y) (by omega) (by omega)).mp (h2.symm.trans g2)
      rw [h3, g3, this]
    · rw [e] at e'; exact absurd e' (by decide)
  · rcases h' with ⟨e', -⟩ | ⟨e', -⟩ | ⟨-, -, h'⟩
    · rw [e] at e'; exact absurd e' (by decide)
    · rw [e] at e'; exact absurd e' (by decide)
    · exact spR_one _ _ _ _ h.2 h'.2
theorem mfin_eq {v k f g f2 g2 fa ga fb gb : Nat → Int32} {nv nk n n2 na nb : Nat} {mm c r r' : Int32} (h : mfin v k nv nk mm c f g n r fa ga na) (h' : mfin v k nv nk mm c f2 g2 n2 r' fb gb nb) : r = r' := by
  rcases h with ⟨o, h⟩ | ⟨o, h⟩ <;> rcases h' with ⟨o', h'⟩ | ⟨o', h'⟩
  · rcases h with ⟨e, L, hL, -⟩ | ⟨e, hL, -⟩ <;> rcases h' with ⟨e', L', hL', -⟩ | ⟨e', hL', -⟩
    · rw [e, e']
    · exact absurd hL (hL' L)
    · exact absurd hL' (hL L')
    · rw [e, e']
  · exact absurd o o'
  · exact absurd o' o
  · rw [h.1, h'.1]
theorem mfin_sp {v k f g f2 g2 fa ga fb gb : Nat → Int32} {nv nk n n2 na nb : Nat} {mm c r r' : Int32} {S : List (Nat × Nat)} (h0 : spIs f g n S) (h0' : spIs f2 g2 n2 S) (h : mfin v k nv nk mm c f g n r fa ga na) (h' : mfin v k nv nk mm c f2 g2 n2 r' fb gb nb) : ∃ L, spIs fa ga na L ∧ spIs fb gb nb L := by
  rcases h with ⟨o, h⟩ | ⟨o, h⟩ <;> rcases h' with ⟨o', h'⟩ | ⟨o', h'⟩
  · rcases h with ⟨e, L, hL, hs⟩ | ⟨e, hL, hs⟩ <;> rcases h' with ⟨e', L', hL', hs'⟩ | ⟨e', hL', hs'⟩
    · rw [sMat_one hL' hL] at hs'; exact ⟨L, hs, hs'⟩
    · exact absurd hL (hL' L)
    · exact absurd hL' (hL L')
    · subst hs hs'; exact ⟨[], spIs_0, spIs_0⟩
  · exact absurd o o'
  · exact absurd o' o
  · obtain ⟨-, rfl, rfl, rfl⟩ := h
    obtain ⟨-, rfl, rfl, rfl⟩ := h'
    exact ⟨S, h0, h0'⟩
theorem ra_sp {f g f2 g2 : Nat → Int32} {n n2 : Nat} {S : List (Nat × Nat)} {i : Int32} (h : spIs f g n S) (h' : spIs f2 g2 n2 S) : ra f n i = ra f2 n2 i ∧ ra g n i = ra g2 n2 i := by
  have e : n = n2 := h.1.trans h'.1.symm
  subst e
  unfold ra
  by_cases q : 0 ≤ i.toInt ∧ i.toInt < n
  · rw [if_pos q, if_pos q, if_pos q, if_pos q]
    have hj : i.toNatClampNeg < n := by rw [ti_cl]; omega
    rw [(h.2 _ hj).1, (h.2 _ hj).2, (h'.2 _ hj).1, (h'.2 _ hj).2]
    exact ⟨rfl, rfl⟩
  · rw [if_neg q, if_neg q, if_neg q, if_neg q]
    exact ⟨rfl, rfl⟩
theorem span_eq {f g f2 g2 : Nat → Int32} {n n2 : Nat} {S : List (Nat × Nat)} {i w : Int32} (h : spIs f g n S) (h' : spIs f2 g2 n2 S) : (if w = 0 then ra f n i else if w = 1 then ra g n i else -1) = (if w = 0 then ra f2 n2 i else if w = 1 then ra g2 n2 i else -1) := by
  rw [(ra_sp (i := i) h h').1, (ra_sp (i := i) h h').2]
theorem lenL {i L : Nat} (hL : L ≤ 2560) (hi : i ≤ 2565) (h : ¬ nI i > Int32.ofNat L - 5) : i + 5 ≤ L := by
  have e : Int32.ofNat L - 5 = nI L - nI 5 := rfl
  rw [e, gt_iff_lt, ti_lt, pk_sub_toInt (by omega) (by omega), nI_toInt (by omega)] at h
  omega
theorem rng_0 {f : Nat → Int32} : rng f 0 := fun j h => absurd h (Nat.not_lt_zero _)
