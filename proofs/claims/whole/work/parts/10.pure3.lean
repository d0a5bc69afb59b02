theorem cs_0 {m N : Int} (h : 0 ≤ m) : cs m N 0 = decide (N < m) := by
  unfold cs
  apply decide_eq_decide.mpr
  constructor
  · rintro ⟨_, h | h | h | h | h | h⟩ <;> first | exact h.2 | exact absurd h.1 (by decide)
  · intro q; exact ⟨h, Or.inl ⟨rfl, q⟩⟩
theorem cs_1 {m N : Int} (h : 0 ≤ m) : cs m N 1 = decide (N ≤ m) := by
  unfold cs
  apply decide_eq_decide.mpr
  constructor
  · rintro ⟨_, h | h | h | h | h | h⟩ <;> first | exact h.2 | exact absurd h.1 (by decide)
  · intro q; exact ⟨h, Or.inr (Or.inl ⟨rfl, q⟩)⟩
theorem cs_2 {m N : Int} (h : 0 ≤ m) : cs m N 2 = decide (m < N) := by
  unfold cs
  apply decide_eq_decide.mpr
  constructor
  · rintro ⟨_, h | h | h | h | h | h⟩ <;> first | exact h.2 | exact absurd h.1 (by decide)
  · intro q; exact ⟨h, Or.inr (Or.inr (Or.inl ⟨rfl, q⟩))⟩
theorem cs_3 {m N : Int} (h : 0 ≤ m) : cs m N 3 = decide (m ≤ N) := by
  unfold cs
  apply decide_eq_decide.mpr
  constructor
  · rintro ⟨_, h | h | h | h | h | h⟩ <;> first | exact h.2 | exact absurd h.1 (by decide)
  · intro q; exact ⟨h, Or.inr (Or.inr (Or.inr (Or.inl ⟨rfl, q⟩)))⟩
theorem cs_4 {m N : Int} (h : 0 ≤ m) : cs m N 4 = decide (m = N) := by
  unfold cs
  apply decide_eq_decide.mpr
  constructor
  · rintro ⟨_, h | h | h | h | h | h⟩ <;> first | exact h.2 | exact absurd h.1 (by decide)
  · intro q; exact ⟨h, Or.inr (Or.inr (Or.inr (Or.inr (Or.inl ⟨rfl, q⟩))))⟩
theorem cs_5 {m N : Int} (h : 0 ≤ m) : cs m N 5 = decide (m ≠ N) := by
  unfold cs
  apply decide_eq_decide.mpr
  constructor
  · rintro ⟨_, h | h | h | h | h | h⟩ <;> first | exact h.2 | exact absurd h.1 (by decide)
  · intro q; exact ⟨h, Or.inr (Or.inr (Or.inr (Or.inr (Or.inr (⟨rfl, q⟩)))))⟩
theorem cs_neg {m N : Int} {r : Int32} (h : ¬ 0 ≤ m) : cs m N r = false := decide_eq_false (fun q => h q.1)
theorem cs_out {m N : Int} {r : Int32} (h0 : ¬ r = 0) (h1 : ¬ r = 1) (h2 : ¬ r = 2) (h3 : ¬ r = 3) (h4 : ¬ r = 4) (h5 : ¬ r = 5) : cs m N r = false := decide_eq_false (by
  rintro ⟨_, h | h | h | h | h | h⟩
  · exact h0 h.1
  · exact h1 h.1
  · exact h2 h.1
  · exact h3 h.1
  · exact h4 h.1
  · exact h5 h.1)
theorem bf1 {p : Prop} {d : Decidable p} (h : p) : (1 : Int32) = if (@decide p d) = true then 1 else 0 := by rw [if_pos (decide_eq_true h)]
theorem bf0 {p : Prop} {d : Decidable p} (h : ¬ p) : (0 : Int32) = if (@decide p d) = true then 1 else 0 := by rw [if_neg (by rw [decide_eq_false h]; decide)]
theorem sn_next {v k : Nat → Int32} {r i j : Nat} (hr : 0 < r) : (if sg (v i) (k j) = 0 then snA v k (r - 1) (i + 1) (j + 1) else sg (v i) (k j)) = snA v k r i j := by
  by_cases q : sg (v i) (k j) = 0
  · rw [if_pos q, snA_next hr q]
  · rw [if_neg q, snA_hit hr q]
theorem sn_end {v k : Nat → Int32} {i j : Nat} {x : Int32} : x = if x = 0 then snA v k 0 i j else x := by
  by_cases q : x = 0
  · rw [if_pos q, q]; rfl
  · rw [if_neg q]
