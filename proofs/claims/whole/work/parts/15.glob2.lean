theorem mt_congr {m w v : Nat → Int32} {np nv : Nat} {c : Int32} (h : ∀ i, i < np → m i = w i) : ∀ r j, r ≤ np → (mt m v np nv c r j ↔ mt w v np nv c r j)
  | 0, j, _ => Iff.rfl
  | r + 1, j, hr => by
    unfold mt
    rw [h (np - (r + 1)) (by omega)]
    split
    · constructor
      · rintro ⟨k, h1, h2, h3⟩; exact ⟨k, h1, h2, (mt_congr h r k (by omega)).mp h3⟩
      · rintro ⟨k, h1, h2, h3⟩; exact ⟨k, h1, h2, (mt_congr h r k (by omega)).mpr h3⟩
    · rw [mt_congr h r (j + 1) (by omega)]
theorem spR_congr {m w v : Nat → Int32} {np nv : Nat} {c : Int32} (h : ∀ i, i < np → m i = w i) : ∀ r j L, r ≤ np → spR m v np nv c r j L → spR w v np nv c r j L
  | 0, j, L, _, q => q
  | r + 1, j, L, hr, q => by
    unfold spR at q ⊢
    rw [h (np - (r + 1)) (by omega)] at q
    split at q
    · rename_i z
      rw [if_pos z]
      obtain ⟨k, L', h1, h2, h3, h4, h5⟩ := q
      exact ⟨k, L', h1, h2, (mt_congr h r k (by omega)).mp h3, fun i g1 g2 g3 => h4 i g1 g2 ((mt_congr h r i (by omega)).mpr g3), spR_congr h r k L' (by omega) h5⟩
    · rename_i z
      rw [if_neg z]
      exact spR_congr h r (j + 1) L (by omega) q
theorem fitA_congr {m w v : Nat → Int32} {c : Int32} : ∀ k i p, (∀ j, i ≤ j → j < i + k → m j = w j) → fitA m v c k i p = fitA w v c k i p
  | 0, _, _, _ => rfl
  | k + 1, i, p, h => by
    unfold fitA
    rw [h i (Nat.le_refl _) (by omega), fitA_congr k (i + 1) (p + 1) (fun j h1 h2 => h j (by omega) (by omega))]
theorem fpA_congr {m w v : Nat → Int32} {nv : Nat} {c : Int32} {a b : Nat} (h : ∀ j, a ≤ j → j < b → m j = w j) : ∀ k p, fpA m v nv c a b k p = fpA w v nv c a b k p
  | 0, _ => rfl
  | k + 1, p => by
    unfold fpA fitB
    rw [fitA_congr (w := w) (b - a) a p (fun j h1 h2 => h j h1 (by omega)), fpA_congr h k (p + 1)]
/-- the marks of a key, how many -/
def mkF (k : Nat → Int32) (nk : Nat) : Nat → Int32 := fun j => (mkL k nk nk 0).getD j 0
def mkN (k : Nat → Int32) (nk : Nat) : Nat := (mkL k nk nk 0).length
/-- like, with the spans L -/
def sLike (v k : Nat → Int32) (nv nk : Nat) (c : Int32) (L : List (Nat × Nat)) : Prop := mtI (mkF k nk) v (mkN k nk) nv c 0 0 ∧ spI (mkF k nk) v (mkN k nk) nv c 0 0 L
/-- contains, with the spans L -/
def sCon (v k : Nat → Int32) (nv nk : Nat) (c : Int32) (L : List (Nat × Nat)) : Prop := ∃ x, x ≤ 100 ∧ fpF k v nv c 0 nk 0 = nI x ∧ L = [(x, nk)]
/-- a match, with the spans L -/
def sMat (v k : Nat → Int32) (nv nk : Nat) (mm c : Int32) (L : List (Nat × Nat)) : Prop := (mm = 0 ∧ stF v k nv nk c = 0 ∧ L = []) ∨ (mm = 1 ∧ ¬ c = 2 ∧ sCon v k nv nk c L) ∨ (mm = 2 ∧ ¬ c = 2 ∧ sLike v k nv nk c L)
/-- an answer and the spans beside it -/
def mres (S : List (Nat × Nat) → Prop) (r : Int32) (f g : Nat → Int32) (n : Nat) : Prop := (r = 1 ∧ ∃ L, S L ∧ spIs f g n L) ∨ (r = 0 ∧ ∀ L, ¬ S L)
theorem lk_yes {v k w : Nat → Int32} {nv nk p1 : Nat} {c : Int32} {L : List (Nat × Nat)} (hp : p1 = (mkL k nk nk 0).length) (hw : hlds w (mkL k nk nk 0)) (h1 : mtI w v p1 nv c 0 0) (h2 : spI w v p1 nv c 0 0 L) : sLike v k nv nk c L := by
  subst hp
  exact ⟨(mt_congr (fun i hi => hw i hi) _ _ (Nat.sub_le _ _)).mp h1, spR_congr (fun i hi => hw i hi) _ _ _ (Nat.sub_le _ _) h2⟩
theorem lk_no {v k w : Nat → Int32} {nv nk p1 : Nat} {c : Int32} (hp : p1 = (mkL k nk nk 0).length) (hw : hlds w (mkL k nk nk 0)) (h1 : ¬ mtI w v p1 nv c 0 0) : ∀ L, ¬ sLike v k nv nk c L := by
  subst hp
  exact fun L q => h1 ((mt_congr (fun i hi => hw i hi) _ _ (Nat.sub_le _ _)).mpr q.1)
theorem ear_last {p1 nv p a b : Nat} (h1 : p1 ≤ 100) (h2 : nv ≤ 100) (h3 : p ≤ 100) (hab : a ≤ b) (hb : b = p1) : (if nI p < nI nv - (nI b - nI a) then nI nv - (nI b - nI a) else nI p) = nI (ear p1 nv p a b) := by
  unfold ear
  rw [if_pos hb, pk_sub hab]
  by_cases q : b - a ≤ nv
  · rw [pk_sub q, max32 h3 (by omega)]
  · rw [if_neg (by rw [ti_lt, pk_sub_toInt (by omega) (by omega), nI_toInt (by omega)]; omega), Nat.max_eq_left (by omega)]
theorem con_no {v k : Nat → Int32} {nv nk : Nat} {c : Int32} (h : fpF k v nv c 0 nk 0 = -1) : ∀ L, ¬ sCon v k nv nk c L := by
  rintro L ⟨x, h1, h2, -⟩
  rw [h] at h2; exact nI_nm1 (by omega) h2.symm
theorem lk_end {v k w : Nat → Int32} {nv nk p1 e1 p0 : Nat} {c : Int32} {acc : List (Nat × Nat)} (hp : p1 = (mkL k nk nk 0).length) (hw : hlds w (mkL k nk nk 0)) (e8 : e1 = p1) (z8 : p0 = nv)
    (i1 : mtI w v p1 nv c 0 0 ↔ mtI w v p1 nv c e1 p0) (i2 : mtI w v p1 nv c e1 p0 → ∀ L, spI w v p1 nv c e1 p0 L → spI w v p1 nv c 0 0 (acc ++ L)) : sLike v k nv nk c acc := by
  subst e8 z8
  have hm : mtI w v e1 p0 c e1 p0 := mtI_end.mpr rfl
  have hs := i2 hm [] (spI_end.mpr rfl)
  rw [List.append_nil] at hs
  exact lk_yes hp hw (i1.mpr hm) hs
theorem lk_fail {v k w : Nat → Int32} {nv nk p1 e1 p0 : Nat} {c : Int32} (hp : p1 = (mkL k nk nk 0).length) (hw : hlds w (mkL k nk nk 0)) (e8 : e1 = p1) (z8 : ¬ p0 = nv)
    (i1 : mtI w v p1 nv c 0 0 ↔ mtI w v p1 nv c e1 p0) : ∀ L, ¬ sLike v k nv nk c L := by
  subst e8
  exact lk_no hp hw (fun q => z8 (mtI_end.mp (i1.mp q)))
