theorem nI_m1n {k : Nat} (hk : k ≤ 1000) (h : nI k - 1 < 0) : k = 0 := by
  cases k with
  | zero => rfl
  | succ k => rw [nI_pred, ti_lt, nI_toInt (by omega), tc_0] at h; omega
/-- a cell of the table: whether the marks from s on match the bytes from x on -/
def cel (M v : Nat → Int32) (np nv : Nat) (c : Int32) (w : Nat → Int32) (s x : Nat) : Prop := (w (101 * s + x) = 1 ∧ mtI M v np nv c s x) ∨ (w (101 * s + x) = 0 ∧ ¬ mtI M v np nv c s x)
def dnR (M v : Nat → Int32) (np nv : Nat) (c : Int32) (w : Nat → Int32) (k : Nat) : Prop := ∀ s x, k ≤ s → s ≤ np → x ≤ nv → cel M v np nv c w s x
def dnC (M v : Nat → Int32) (np nv : Nat) (c : Int32) (w : Nat → Int32) (j l : Nat) : Prop := ∀ x, l ≤ x → x ≤ nv → cel M v np nv c w j x
section CE
variable {M v : Nat → Int32} {np nv : Nat} {c : Int32} {w : Nat → Int32}
theorem cel_t {s x i : Nat} (hi : i = 101 * s + x) (h : cel M v np nv c w s x) (q : ¬ w i = 0) : mtI M v np nv c s x := by
  subst hi
  rcases h with h | h
  · exact h.2
  · exact absurd h.1 q
theorem cel_f {s x i : Nat} (hi : i = 101 * s + x) (h : cel M v np nv c w s x) (q : w i = 0) : ¬ mtI M v np nv c s x := by
  subst hi
  rcases h with h | h
  · rw [q] at h; exact absurd h.1 (by decide)
  · exact h.2
theorem cel_ne {s x j y : Nat} {b : Int32} (hx : x ≤ 100) (hy : y ≤ 100) (h : ¬ (s = j ∧ x = y)) (q : cel M v np nv c w s x) : cel M v np nv c (upd w (101 * j + y) b) s x := by
  unfold cel
  rw [pk_un (by omega)]; exact q
theorem dn_R {j x : Nat} {b : Int32} (hv : nv ≤ 100) (hx : x ≤ nv) (h : dnR M v np nv c w (j + 1)) : dnR M v np nv c (upd w (101 * j + x) b) (j + 1) := fun s y h1 h2 h3 => cel_ne (by omega) (by omega) (by omega) (h s y h1 h2 h3)
theorem dn_C {j x : Nat} {b : Int32} (hv : nv ≤ 100) (hx : x ≤ nv) (h : dnC M v np nv c w j (x + 1)) (hb : (b = 1 ∧ mtI M v np nv c j x) ∨ (b = 0 ∧ ¬ mtI M v np nv c j x)) : dnC M v np nv c (upd w (101 * j + x) b) j x := by
  intro y h1 h2
  by_cases e : y = x
  · subst e; unfold cel; rw [pk_us]; exact hb
  · exact cel_ne (by omega) (by omega) (by omega) (h y (by omega) h2)
theorem dn_row {j l : Nat} (e : l = 0) (h : dnR M v np nv c w (j + 1)) (h2 : dnC M v np nv c w j l) : dnR M v np nv c w j := by
  intro s x g1 g2 g3
  by_cases q : s = j
  · subst q; exact h2 x (by omega) g3
  · exact h s x (by omega) g2 g3
theorem dn_0 : dnR M v np nv c w (np + 1) := fun s x h1 h2 _ => absurd h1 (by omega)
theorem dn_c0 {j : Nat} : dnC M v np nv c w j (nv + 1) := fun x h1 h2 => absurd h1 (by omega)
theorem star_rec {s x : Nat} (hs : s < np) (hm : M s = 257) (hx : x ≤ nv) : mtI M v np nv c s x ↔ mtI M v np nv c (s + 1) x ∨ (x < nv ∧ mtI M v np nv c s (x + 1)) := by
  rw [mtI_star hs hm, mtI_star hs hm]
  constructor
  · rintro ⟨k, h1, h2, h3⟩
    by_cases e : k = x
    · subst e; exact Or.inl h3
    · exact Or.inr ⟨by omega, k, by omega, h2, h3⟩
  · rintro (h | ⟨h, k, h1, h2, h3⟩)
    · exact ⟨x, Nat.le_refl _, hx, h⟩
    · exact ⟨k, by omega, h2, h3⟩
theorem end_0 {j x : Nat} (h : j = np) (hx : ¬ x = nv) : ¬ mtI M v np nv c j x := by subst h; exact fun q => hx (mtI_end.mp q)
theorem end_1 {j x : Nat} (h : j = np) (hx : x = nv) : mtI M v np nv c j x := by subst h; exact mtI_end.mpr hx
end CE
theorem mok_0 {s l m x c : Int32} (h : srel s l m) (h2 : ¬ s = 2) (h1 : ¬ s = 1) (q : ¬ fo x c = fo l c) : ¬ mok m x c = true := by
  obtain ⟨e, z⟩ := srel_0 h h2 h1
  subst e
  rw [mok_no z q]; decide
theorem mok_1 {s l m x c : Int32} (h : srel s l m) (h2 : ¬ s = 2) (h1 : ¬ s = 1) (q : fo x c = fo l c) : mok m x c = true := by
  obtain ⟨e, z⟩ := srel_0 h h2 h1
  subst e
  exact decide_eq_true (Or.inr q.symm)
theorem lkm_no {v k : Nat → Int32} {nv nk p1 : Nat} {c : Int32} (hp : p1 = mkN k nk) (h : ¬ mtI (mkF k nk) v p1 nv c 0 0) : ∀ L, ¬ sLike v k nv nk c L := by
  subst hp; exact fun L q => h q.1
theorem lkm_yes {v k : Nat → Int32} {nv nk p1 i x : Nat} {c : Int32} {acc : List (Nat × Nat)} (hp : p1 = mkN k nk) (e8 : i = p1) (h0 : mtI (mkF k nk) v p1 nv c 0 0) (h : ∀ L, spI (mkF k nk) v p1 nv c i x L → spI (mkF k nk) v p1 nv c 0 0 (acc ++ L)) : sLike v k nv nk c acc := by
  subst hp e8
  have := h [] (spI_end.mpr rfl)
  rw [List.append_nil] at this
  exact ⟨h0, this⟩
