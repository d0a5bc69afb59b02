theorem mres_b {S : List (Nat × Nat) → Prop} {r : Int32} {f g : Nat → Int32} {n : Nat} (h : mres S r f g n) : narrow .boolean (.int r) = .int r := by
  rcases h with ⟨h, -⟩ | ⟨h, -⟩ <;> rw [h] <;> decide
theorem mres_mono {S T : List (Nat × Nat) → Prop} {r : Int32} {f g : Nat → Int32} {n : Nat} (e : ∀ L, S L ↔ T L) (h : mres S r f g n) : mres T r f g n := by
  rcases h with ⟨h1, L, h2, h3⟩ | ⟨h1, h2⟩
  · exact Or.inl ⟨h1, L, (e L).mp h2, h3⟩
  · exact Or.inr ⟨h1, fun L q => h2 L ((e L).mpr q)⟩
theorem sMat_0 {v k : Nat → Int32} {nv nk : Nat} {mm c : Int32} (h : mm = 0) (L : List (Nat × Nat)) : (stF v k nv nk c = 0 ∧ L = []) ↔ sMat v k nv nk mm c L := by
  unfold sMat; subst h
  constructor
  · exact fun q => Or.inl ⟨rfl, q⟩
  · rintro (q | q | q)
    · exact q.2
    · exact absurd q.1 (by decide)
    · exact absurd q.1 (by decide)
theorem sMat_1 {v k : Nat → Int32} {nv nk : Nat} {mm c : Int32} (h : mm = 1) (hc : ¬ c = 2) (L : List (Nat × Nat)) : sCon v k nv nk c L ↔ sMat v k nv nk mm c L := by
  unfold sMat; subst h
  constructor
  · exact fun q => Or.inr (Or.inl ⟨rfl, hc, q⟩)
  · rintro (q | q | q)
    · exact absurd q.1 (by decide)
    · exact q.2.2
    · exact absurd q.1 (by decide)
theorem sMat_2 {v k : Nat → Int32} {nv nk : Nat} {mm c : Int32} (h : mm = 2) (hc : ¬ c = 2) (L : List (Nat × Nat)) : sLike v k nv nk c L ↔ sMat v k nv nk mm c L := by
  unfold sMat; subst h
  constructor
  · exact fun q => Or.inr (Or.inr ⟨rfl, hc, q⟩)
  · rintro (q | q | q)
    · exact absurd q.1 (by decide)
    · exact absurd q.1 (by decide)
    · exact q.2.2
theorem sMat_c {v k : Nat → Int32} {nv nk : Nat} {mm c : Int32} (h : ¬ mm = 0) (hc : c = 2) (L : List (Nat × Nat)) : ¬ sMat v k nv nk mm c L := by
  rintro (q | q | q)
  · exact h q.1
  · exact q.2.1 hc
  · exact q.2.1 hc
theorem two32 {x : Int32} (h1 : 0 ≤ x.toInt) (h2 : x.toInt ≤ 2) (h3 : ¬ x = 0) (h4 : ¬ x = 1) : x = 2 := by
  rw [ti_eq, tc_0] at h3; rw [ti_eq, tc_1] at h4; rw [ti_eq, tc_2]; omega
/-- what a match leaves: its answer and the spans -/
def mOk (mm c : Int32) : Prop := 0 ≤ mm.toInt ∧ mm.toInt ≤ 2 ∧ 0 ≤ c.toInt ∧ c.toInt ≤ 2
def mfin (v k : Nat → Int32) (nv nk : Nat) (mm c : Int32) (f g : Nat → Int32) (n : Nat) (r : Int32) (f' g' : Nat → Int32) (n' : Nat) : Prop :=
  (mOk mm c ∧ ((r = 1 ∧ ∃ L, sMat v k nv nk mm c L ∧ spIs f' g' n' L) ∨ (r = 0 ∧ (∀ L, ¬ sMat v k nv nk mm c L) ∧ n' = 0))) ∨ (¬ mOk mm c ∧ r = -1 ∧ f' = f ∧ g' = g ∧ n' = n)
theorem apR_1 {n : Nat} {c : Int32} (h : ¬ apR n c = 0) : apR n c = 1 := by
  unfold apR at h ⊢
  split
  · rfl
  · rename_i q; exact absurd (if_neg q) h
