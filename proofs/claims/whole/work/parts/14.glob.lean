/-- the marks from np - r on match the bytes from j on -/
def mt (m v : Nat → Int32) (np nv : Nat) (c : Int32) : Nat → Nat → Prop
  | 0, j => j = nv
  | r + 1, j => if m (np - (r + 1)) = 257 then ∃ k, j ≤ k ∧ k ≤ nv ∧ mt m v np nv c r k else j < nv ∧ mok (m (np - (r + 1))) (v j) c = true ∧ mt m v np nv c r (j + 1)
def mtI (m v : Nat → Int32) (np nv : Nat) (c : Int32) (i j : Nat) : Prop := mt m v np nv c (np - i) j
/-- L: what the stars from np - r on stand for, the first one the fewest, then the next -/
def spR (m v : Nat → Int32) (np nv : Nat) (c : Int32) : Nat → Nat → List (Nat × Nat) → Prop
  | 0, _, L => L = []
  | r + 1, j, L => if m (np - (r + 1)) = 257 then ∃ k L', L = (j, k - j) :: L' ∧ j ≤ k ∧ mt m v np nv c r k ∧ (∀ i, j ≤ i → i < k → ¬ mt m v np nv c r i) ∧ spR m v np nv c r k L' else spR m v np nv c r (j + 1) L
def spI (m v : Nat → Int32) (np nv : Nat) (c : Int32) (i j : Nat) (L : List (Nat × Nat)) : Prop := spR m v np nv c (np - i) j L
section GL
variable {m v : Nat → Int32} {np nv : Nat} {c : Int32}
theorem spR_one : ∀ r j L L', spR m v np nv c r j L → spR m v np nv c r j L' → L = L'
  | 0, _, _, _, h, h' => by unfold spR at h h'; rw [h, h']
  | r + 1, j, L, L', h, h' => by
    unfold spR at h h'
    split at h
    · rename_i q
      rw [if_pos q] at h'
      obtain ⟨k, K, rfl, h1, h2, h3, h4⟩ := h
      obtain ⟨k', K', rfl, g1, g2, g3, g4⟩ := h'
      have e : k = k' := by
        rcases Nat.lt_trichotomy k k' with z | z | z
        · exact absurd h2 (g3 k h1 z)
        · exact z
        · exact absurd g2 (h3 k' g1 z)
      subst e
      rw [spR_one r k K K' h4 g4]
    · rename_i q
      rw [if_neg q] at h'
      exact spR_one r (j + 1) L L' h h'
theorem mt_le : ∀ r j, mt m v np nv c r j → j ≤ nv
  | 0, j, h => by unfold mt at h; omega
  | r + 1, j, h => by
    unfold mt at h
    split at h
    · obtain ⟨k, h1, h2, -⟩ := h; omega
    · omega
theorem mtI_end {j : Nat} : mtI m v np nv c np j ↔ j = nv := by unfold mtI; rw [Nat.sub_self]; rfl
theorem mtI_star {i j : Nat} (hi : i < np) (h : m i = 257) : mtI m v np nv c i j ↔ ∃ k, j ≤ k ∧ k ≤ nv ∧ mtI m v np nv c (i + 1) k := by
  unfold mtI
  obtain ⟨r, hr⟩ : ∃ r, np - i = r + 1 := ⟨np - i - 1, by omega⟩
  have e : np - (i + 1) = r := by omega
  have e2 : np - (r + 1) = i := by omega
  rw [hr, e]
  conv => lhs; unfold mt
  rw [e2, if_pos h]
theorem mtI_one {i j : Nat} (hi : i < np) (h : ¬ m i = 257) : mtI m v np nv c i j ↔ j < nv ∧ mok (m i) (v j) c = true ∧ mtI m v np nv c (i + 1) (j + 1) := by
  unfold mtI
  obtain ⟨r, hr⟩ : ∃ r, np - i = r + 1 := ⟨np - i - 1, by omega⟩
  have e : np - (i + 1) = r := by omega
  have e2 : np - (r + 1) = i := by omega
  rw [hr, e]
  conv => lhs; unfold mt
  rw [e2, if_neg h]
theorem spI_end {j : Nat} {L : List (Nat × Nat)} : spI m v np nv c np j L ↔ L = [] := by unfold spI; rw [Nat.sub_self]; rfl
theorem spI_star {i j : Nat} {L : List (Nat × Nat)} (hi : i < np) (h : m i = 257) : spI m v np nv c i j L ↔ ∃ k L', L = (j, k - j) :: L' ∧ j ≤ k ∧ mtI m v np nv c (i + 1) k ∧ (∀ x, j ≤ x → x < k → ¬ mtI m v np nv c (i + 1) x) ∧ spI m v np nv c (i + 1) k L' := by
  unfold spI mtI
  obtain ⟨r, hr⟩ : ∃ r, np - i = r + 1 := ⟨np - i - 1, by omega⟩
  have e : np - (i + 1) = r := by omega
  have e2 : np - (r + 1) = i := by omega
  rw [hr, e]
  conv => lhs; unfold spR
  rw [e2, if_pos h]
theorem spI_one {i j : Nat} {L : List (Nat × Nat)} (hi : i < np) (h : ¬ m i = 257) : spI m v np nv c i j L ↔ spI m v np nv c (i + 1) (j + 1) L := by
  unfold spI
  obtain ⟨r, hr⟩ : ∃ r, np - i = r + 1 := ⟨np - i - 1, by omega⟩
  have e : np - (i + 1) = r := by omega
  have e2 : np - (r + 1) = i := by omega
  rw [hr, e]
  conv => lhs; unfold spR
  rw [e2, if_neg h]
theorem seg : ∀ k a j, (∀ i, a ≤ i → i < a + k → ¬ m i = 257) → a + k ≤ np → (mtI m v np nv c a j ↔ fitA m v c k a j = true ∧ mtI m v np nv c (a + k) (j + k))
  | 0, a, j, _, _ => by simp [fitA]
  | k + 1, a, j, h, hk => by
    rw [mtI_one (by omega) (h a (Nat.le_refl _) (by omega)), seg k (a + 1) (j + 1) (fun i h1 h2 => h i (by omega) (by omega)) (by omega)]
    rw [show a + 1 + k = a + (k + 1) from by omega, show j + 1 + k = j + (k + 1) from by omega]
    rw [show fitA m v c (k + 1) a j = (mok (m a) (v j) c && fitA m v c k (a + 1) (j + 1)) from rfl, Bool.and_eq_true]
    constructor
    · rintro ⟨_, h1, h2, h3⟩; exact ⟨⟨h1, h2⟩, h3⟩
    · rintro ⟨⟨h1, h2⟩, h3⟩
      have := mt_le _ _ h3
      exact ⟨by omega, h1, h2, h3⟩
theorem segS : ∀ k a j L, (∀ i, a ≤ i → i < a + k → ¬ m i = 257) → a + k ≤ np → (spI m v np nv c a j L ↔ spI m v np nv c (a + k) (j + k) L)
  | 0, a, j, L, _, _ => Iff.rfl
  | k + 1, a, j, L, h, hk => by
    rw [spI_one (by omega) (h a (Nat.le_refl _) (by omega)), segS k (a + 1) (j + 1) L (fun i h1 h2 => h i (by omega) (by omega)) (by omega)]
    rw [show a + 1 + k = a + (k + 1) from by omega, show j + 1 + k = j + (k + 1) from by omega]
theorem segB {a b j : Nat} (hab : a ≤ b) (h : ∀ i, a ≤ i → i < b → ¬ m i = 257) (hb : b ≤ np) : mtI m v np nv c a j ↔ fitB m v nv c a b j = true ∧ mtI m v np nv c b (j + (b - a)) := by
  have q := seg (m := m) (v := v) (np := np) (nv := nv) (c := c) (b - a) a j (fun i h1 h2 => h i h1 (by omega)) (by omega)
  rw [show a + (b - a) = b from by omega] at q
  rw [q]
  unfold fitB
  rw [Bool.and_eq_true, decide_eq_true_iff]
  constructor
  · rintro ⟨h1, h2⟩; exact ⟨⟨mt_le _ _ h2, h1⟩, h2⟩
  · rintro ⟨⟨_, h1⟩, h2⟩; exact ⟨h1, h2⟩
theorem segSB {a b j : Nat} {L : List (Nat × Nat)} (hab : a ≤ b) (h : ∀ i, a ≤ i → i < b → ¬ m i = 257) (hb : b ≤ np) : spI m v np nv c a j L ↔ spI m v np nv c b (j + (b - a)) L := by
  have q := segS (m := m) (v := v) (np := np) (nv := nv) (c := c) (b - a) a j L (fun i h1 h2 => h i h1 (by omega)) (by omega)
  rwa [show a + (b - a) = b from by omega] at q
theorem nI_nm1 {p : Nat} (h : p ≤ 1000) : ¬ nI p = -1 := by rw [ti_eq, nI_toInt (by omega), tc_m1]; omega
theorem fpA_none {a b : Nat} : ∀ k p, p + k ≤ 1000 → fpA m v nv c a b k p = -1 → ∀ x, p ≤ x → x < p + k → fitB m v nv c a b x = false
  | 0, p, _, _, x, h1, h2 => by omega
  | k + 1, p, hp, h, x, h1, h2 => by
    unfold fpA at h
    split at h
    · exact absurd h (nI_nm1 (by omega))
    · rename_i q
      by_cases e : x = p
      · subst e; simpa using q
      · exact fpA_none k (p + 1) (by omega) h x (by omega) (by omega)
theorem fpA_some {a b : Nat} : ∀ k p, ¬ fpA m v nv c a b k p = -1 → ∃ x, fpA m v nv c a b k p = nI x ∧ p ≤ x ∧ x < p + k ∧ fitB m v nv c a b x = true ∧ ∀ y, p ≤ y → y < x → fitB m v nv c a b y = false
  | 0, p, h => absurd rfl h
  | k + 1, p, h => by
    unfold fpA at h ⊢
    split
    · rename_i q; exact ⟨p, rfl, Nat.le_refl _, by omega, q, fun y h1 h2 => by omega⟩
    · rename_i q
      rw [if_neg q] at h
      obtain ⟨x, h1, h2, h3, h4, h5⟩ := fpA_some k (p + 1) h
      refine ⟨x, h1, by omega, by omega, h4, fun y g1 g2 => ?_⟩
      by_cases e : y = p
      · subst e; simpa using q
      · exact h5 y (by omega) g2
theorem fitB_len {a b x : Nat} (h : fitB m v nv c a b x = true) : x + (b - a) ≤ nv := by
  unfold fitB at h; rw [Bool.and_eq_true, decide_eq_true_iff] at h; exact h.1
theorem fp_none {a b e0 : Nat} (hv : nv ≤ 100) (he : e0 ≤ 100) (h : fpF m v nv c a b e0 = -1) : ∀ x, e0 ≤ x → ¬ fitB m v nv c a b x = true := by
  intro x hx q
  have h1 := fitB_len q
  have h2 := fpA_none _ _ (by omega) h x hx (by omega)
  rw [h2] at q; exact absurd q (by decide)
theorem fp_some {a b e0 : Nat} (h : ¬ fpF m v nv c a b e0 = -1) : ∃ x, fpF m v nv c a b e0 = nI x ∧ e0 ≤ x ∧ x + (b - a) ≤ nv ∧ fitB m v nv c a b x = true ∧ ∀ y, e0 ≤ y → y < x → ¬ fitB m v nv c a b y = true := by
  obtain ⟨x, h1, h2, h3, h4, h5⟩ := fpA_some _ _ h
  exact ⟨x, h1, h2, fitB_len h4, h4, fun y g1 g2 q => by rw [h5 y g1 g2] at q; exact absurd q (by decide)⟩
/-- the next star from b on, or the end -/
def nst (m : Nat → Int32) (np b : Nat) : Nat := cnt (fun j => decide (m j ≠ 257)) (np - b) b
theorem cnt_end (p : Nat → Bool) : ∀ k i, cnt p k i < i + k → p (cnt p k i) = false
  | 0, i, h => by simp [cnt] at h
  | k + 1, i, h => by
    unfold cnt at h ⊢
    split at h
    · rename_i q; rw [if_pos q]; exact cnt_end p k (i + 1) (by omega)
    · rename_i q; rw [if_neg q]; simpa using q
theorem nst_ge {b : Nat} : b ≤ nst m np b := (cnt_le _ _ _).1
theorem nst_le {b : Nat} (h : b ≤ np) : nst m np b ≤ np := by
  have := (cnt_le (fun j => decide (m j ≠ 257)) (np - b) b).2
  unfold nst; omega
theorem nst_no {b i : Nat} (h1 : b ≤ i) (h2 : i < nst m np b) : ¬ m i = 257 := of_decide_eq_true (cnt_in (fun j => decide (m j ≠ 257)) (np - b) b i h1 h2)
theorem nst_at {b : Nat} (hb : b ≤ np) (h : nst m np b < np) : m (nst m np b) = 257 := by
  have := cnt_end (fun j => decide (m j ≠ 257)) (np - b) b (by unfold nst at h; omega)
  exact Decidable.not_not.mp (of_decide_eq_false this)
/-- from where on the bytes behind a star are sought -/
def ear (np nv p a b : Nat) : Nat := if b = np then max p (nv - (b - a)) else p
theorem gr_none {e p : Nat} (he : e < np) (hs : m e = 257) (hv : nv ≤ 100) (hp : p ≤ nv) (h : fpF m v nv c (e + 1) (nst m np (e + 1)) (ear np nv p (e + 1) (nst m np (e + 1))) = -1) : ¬ mtI m v np nv c e p := by
  rw [mtI_star he hs]
  rintro ⟨k, h1, h2, h3⟩
  rw [segB nst_ge (fun i a b => nst_no a b) (nst_le (by omega))] at h3
  refine fp_none hv ?_ h k ?_ h3.1
  · unfold ear; split <;> omega
  · unfold ear
    split
    · rename_i q
      rw [q, mtI_end] at h3
      rw [q]; omega
    · exact h1
theorem gr_some {e p k0 : Nat} (he : e < np) (hs : m e = 257) (h1 : ear np nv p (e + 1) (nst m np (e + 1)) ≤ k0) (h2 : k0 + (nst m np (e + 1) - (e + 1)) ≤ nv) (h3 : fitB m v nv c (e + 1) (nst m np (e + 1)) k0 = true)
    (h4 : ∀ y, ear np nv p (e + 1) (nst m np (e + 1)) ≤ y → y < k0 → ¬ fitB m v nv c (e + 1) (nst m np (e + 1)) y = true) :
    p ≤ k0 ∧ (mtI m v np nv c e p ↔ mtI m v np nv c (nst m np (e + 1)) (k0 + (nst m np (e + 1) - (e + 1)))) ∧
    (mtI m v np nv c (nst m np (e + 1)) (k0 + (nst m np (e + 1) - (e + 1))) → ∀ L, spI m v np nv c (nst m np (e + 1)) (k0 + (nst m np (e + 1) - (e + 1))) L → spI m v np nv c e p ((p, k0 - p) :: L)) := by
  have hle : nst m np (e + 1) ≤ np := nst_le (by omega)
  have hge : e + 1 ≤ nst m np (e + 1) := nst_ge
  have hpk : p ≤ k0 := by
    unfold ear at h1; split at h1 <;> omega
  have hsg : ∀ j, mtI m v np nv c (e + 1) j ↔ _ := fun j => segB (v := v) (nv := nv) (c := c) (j := j) nst_ge (fun i a b => nst_no (m := m) (np := np) a b) hle
  have hmin : ∀ x, p ≤ x → x < k0 → ¬ mtI m v np nv c (e + 1) x := by
    intro x g1 g2 g3
    rw [hsg] at g3
    by_cases q : nst m np (e + 1) = np
    · rw [q, mtI_end] at g3
      rw [q] at h2; omega
    · exact h4 x (by unfold ear; rw [if_neg q]; exact g1) g2 g3.1
  refine ⟨hpk, ?_, ?_⟩
  · rw [mtI_star he hs]
    constructor
    · rintro ⟨k, g1, g2, g3⟩
      have hk : k0 ≤ k := Nat.not_lt.mp (fun z => hmin k g1 z g3)
      rw [hsg] at g3
      by_cases q : nst m np (e + 1) = np
      · rw [q, mtI_end] at g3 ⊢
        have h1' := h1
        unfold ear at h1'
        rw [if_pos q] at h1'
        rw [q] at h1' h2; omega
      · have hst := nst_at (m := m) (np := np) (b := e + 1) (by omega) (by omega)
        have g4 := g3.2
        rw [mtI_star (by omega) hst] at g4 ⊢
        obtain ⟨y, y1, y2, y3⟩ := g4
        exact ⟨y, by omega, y2, y3⟩
    · intro g
      exact ⟨k0, hpk, by omega, (hsg k0).mpr ⟨h3, g⟩⟩
  · intro g L hL
    rw [spI_star he hs]
    exact ⟨k0, L, rfl, hpk, (hsg k0).mpr ⟨h3, g⟩, hmin, (segSB nst_ge (fun i a b => nst_no a b) hle).mpr hL⟩
end GL
/-- the spans that two rows hold -/
def spIs (f g : Nat → Int32) (n : Nat) (L : List (Nat × Nat)) : Prop := n = L.length ∧ ∀ j, j < n → f j = nI (L.getD j (0, 0)).1 ∧ g j = nI (L.getD j (0, 0)).2
theorem spIs_0 {f g : Nat → Int32} : spIs f g 0 [] := ⟨rfl, fun j h => absurd h (Nat.not_lt_zero _)⟩
theorem spIs_add {f g : Nat → Int32} {n : Nat} {L : List (Nat × Nat)} {x y : Nat} (h : spIs f g n L) : spIs (upd f n (nI x)) (upd g n (nI y)) (n + 1) (L ++ [(x, y)]) := by
  obtain ⟨h1, h2⟩ := h
  refine ⟨by rw [List.length_append, List.length_singleton, h1], fun j hj => ?_⟩
  by_cases e : j = n
  · subst e; rw [pk_us, pk_us, h1]; simp
  · rw [pk_un e, pk_un e]
    have := h2 j (by omega)
    have hl : j < L.length := by omega
    simpa [List.getElem?_append_left hl] using this
