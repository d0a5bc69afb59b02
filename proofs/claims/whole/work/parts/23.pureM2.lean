/-- bytes -/
def rng (f : Nat → Int32) (n : Nat) : Prop := ∀ j, j < n → 0 ≤ (f j).toInt ∧ (f j).toInt ≤ 255
theorem rng_256 {f : Nat → Int32} {n j : Nat} (h : rng f n) (hj : j < n) : ¬ f j = 256 := fun q => by
  have := h j hj; rw [q, tc_256] at this; omega
theorem mok_no {m x c : Int32} (h1 : ¬ m = 256) (h2 : ¬ fo x c = fo m c) : mok m x c = false := decide_eq_false (fun q => q.elim h1 (fun z => h2 z.symm))
theorem con_yes {v k : Nat → Int32} {nv nk i : Nat} {c : Int32} (hv : nv ≤ 100) (h : fpF k v nv c 0 nk 0 = nI i) (hi : i ≤ nv) : sCon v k nv nk c [(i, nk)] := ⟨i, by omega, h, rfl⟩
/-- a sign and a literal for a mark -/
def srel (s l m : Int32) : Prop := (s = 2 ∧ m = 257) ∨ (s = 1 ∧ m = 256) ∨ (s = 0 ∧ m = l ∧ 0 ≤ l.toInt ∧ l.toInt ≤ 255)
theorem srel_2 {s l m : Int32} (h : srel s l m) (q : s = 2) : m = 257 := by
  rcases h with h | h | h
  · exact h.2
  · rw [q] at h; exact absurd h.1 (by decide)
  · rw [q] at h; exact absurd h.1 (by decide)
theorem srel_n2 {s l m : Int32} (h : srel s l m) (q : ¬ s = 2) : ¬ m = 257 := by
  rcases h with h | h | h
  · exact absurd h.1 q
  · rw [h.2]; decide
  · intro z; have := h.2.2; rw [← h.2.1, z, tc_257] at this; omega
theorem srel_1 {s l m : Int32} (h : srel s l m) (q : s = 1) : m = 256 := by
  rcases h with h | h | h
  · rw [q] at h; exact absurd h.1 (by decide)
  · exact h.2
  · rw [q] at h; exact absurd h.1 (by decide)
theorem srel_0 {s l m : Int32} (h : srel s l m) (q : ¬ s = 2) (q1 : ¬ s = 1) : m = l ∧ ¬ m = 256 := by
  rcases h with h | h | h
  · exact absurd h.1 q
  · exact absurd h.1 q1
  · refine ⟨h.2.1, fun z => ?_⟩
    have := h.2.2; rw [← h.2.1, z, tc_256] at this; omega
def srl (f g : Nat → Int32) (l : List Int32) : Prop := ∀ j, j < l.length → srel (f j) (g j) (l.getD j 0)
theorem srl_0 {f g : Nat → Int32} : srl f g [] := fun j h => absurd h (Nat.not_lt_zero _)
theorem srl_add {f g : Nat → Int32} {l : List Int32} {n : Nat} {x y z : Int32} (h : srl f g l) (hn : n = l.length) (hx : srel x y z) : srl (upd f n x) (upd g n y) (l ++ [z]) := by
  intro j hj
  rw [List.length_append, List.length_singleton] at hj
  subst hn
  by_cases e : j = l.length
  · subst e; rw [pk_us, pk_us]; simpa using hx
  · rw [pk_un e, pk_un e]
    have hl : j < l.length := by omega
    simpa [List.getElem?_append_left hl] using h j hl
