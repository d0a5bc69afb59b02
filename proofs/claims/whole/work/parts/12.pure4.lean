/-- byte i of v -/
def btv (v : Int64) (i : Nat) : Int32 := (((v).toUInt64 >>> (((8) * (nI i)).toInt64.toUInt64 &&& Int64.toUInt64 63)).toInt64).toInt32 &&& (255)
/-- the lowest k bytes of v, the highest first, from n on -/
def apA (v : Int64) : Nat → (Nat → Int32) → Nat → (Nat → Int32)
  | 0, f, _ => f
  | k + 1, f, n => apA v k (upd f n (btv v k)) (n + 1)
/-- whether a put is taken -/
def apOk (n : Nat) (c : Int32) : Prop := 1 ≤ c.toInt ∧ c.toInt ≤ 8 ∧ c.toInt + n ≤ 100
def apF (f : Nat → Int32) (n : Nat) (v : Int64) (c : Int32) : (Nat → Int32) × Nat := if 1 ≤ c.toInt ∧ c.toInt ≤ 8 ∧ c.toInt + n ≤ 100 then (apA v c.toInt.toNat f n, n + c.toInt.toNat) else (f, n)
def apR (n : Nat) (c : Int32) : Int32 := if 1 ≤ c.toInt ∧ c.toInt ≤ 8 ∧ c.toInt + n ≤ 100 then 1 else 0
theorem apF_le {f : Nat → Int32} {n : Nat} {v : Int64} {c : Int32} (hn : n ≤ 100) : (apF f n v c).2 ≤ 100 := by
  unfold apF
  split
  · show n + c.toInt.toNat ≤ 100; omega
  · exact hn
theorem and255 (x : Int32) : 0 ≤ (x &&& 255).toInt ∧ (x &&& 255).toInt ≤ 255 := by
  obtain ⟨j, h1, h2⟩ := pk_andE x (m := 255) 8 rfl
  rw [h2, nI_toInt (by omega)]; omega
theorem apA_rng (v : Int64) : ∀ k f n, (∀ j, j < n → 0 ≤ (f j).toInt ∧ (f j).toInt ≤ 255) → ∀ j, j < n + k → 0 ≤ (apA v k f n j).toInt ∧ (apA v k f n j).toInt ≤ 255
  | 0, f, n, h => h
  | k + 1, f, n, h => by
    intro j hj
    refine apA_rng v k _ (n + 1) ?_ j (by omega)
    intro i hi
    by_cases e : i = n
    · subst e; rw [pk_us]; exact and255 _
    · rw [pk_un e]; exact h i (by omega)
theorem apF_rng {f : Nat → Int32} {n : Nat} {v : Int64} {c : Int32} (h : ∀ j, j < n → 0 ≤ (f j).toInt ∧ (f j).toInt ≤ 255) : ∀ j, j < (apF f n v c).2 → 0 ≤ ((apF f n v c).1 j).toInt ∧ ((apF f n v c).1 j).toInt ≤ 255 := by
  unfold apF
  split
  · exact apA_rng v _ f n h
  · exact h
theorem nI_dec (k : Nat) : nI k + Int32.ofInt (-1) = nI k - 1 := by rw [Int32.sub_eq_add_neg]; rfl
theorem nI_m1_neg {k : Nat} (hk : k ≤ 100) (h : nI k - 1 < 0) : k = 0 := by
  cases k with
  | zero => rfl
  | succ k => rw [nI_pred, ti_lt, nI_toInt (by omega), tc_0] at h; omega
theorem nI_m1_pos {k : Nat} (h : ¬ nI k - 1 < 0) : ∃ j, k = j + 1 := by
  cases k with
  | zero => exact absurd (by decide) h
  | succ k => exact ⟨k, rfl⟩
/-- a pattern's marks out of a key -/
def mkL (k : Nat → Int32) (nk : Nat) : Nat → Nat → List Int32
  | 0, _ => []
  | r + 1, i => if i < nk then (if k i = 92 ∧ i + 1 < nk then k (i + 1) :: mkL k nk r (i + 2) else (if k i = 42 then 257 else if k i = 63 then 256 else k i) :: mkL k nk r (i + 1)) else []
theorem mkL_end {k : Nat → Int32} {nk r i : Nat} (h : nk ≤ i) : mkL k nk r i = [] := by
  cases r with
  | zero => rfl
  | succ r => unfold mkL; rw [if_neg (by omega)]
theorem mkL_esc {k : Nat → Int32} {nk r i : Nat} (h : k i = 92) (h2 : i + 1 < nk) (hr : nk ≤ r + i) : mkL k nk r i = k (i + 1) :: mkL k nk (r - 1) (i + 2) := by
  cases r with
  | zero => omega
  | succ r => conv => lhs; unfold mkL
              rw [if_pos (by omega), if_pos ⟨h, h2⟩]; rfl
theorem mkL_one {k : Nat → Int32} {nk r i : Nat} (h : ¬ (k i = 92 ∧ i + 1 < nk)) (h2 : i < nk) (hr : nk ≤ r + i) : mkL k nk r i = (if k i = 42 then 257 else if k i = 63 then 256 else k i) :: mkL k nk (r - 1) (i + 1) := by
  cases r with
  | zero => omega
  | succ r => conv => lhs; unfold mkL
              rw [if_pos h2, if_neg h]; rfl
/-- the places of f hold the list -/
def hlds (f : Nat → Int32) (l : List Int32) : Prop := ∀ j, j < l.length → f j = l.getD j 0
theorem hlds_0 {f : Nat → Int32} : hlds f [] := fun j h => absurd h (Nat.not_lt_zero _)
theorem hlds_add {f : Nat → Int32} {l : List Int32} {n : Nat} {x : Int32} (h : hlds f l) (hn : n = l.length) : hlds (upd f n x) (l ++ [x]) := by
  intro j hj
  rw [List.length_append, List.length_singleton] at hj
  subst hn
  by_cases e : j = l.length
  · subst e; rw [pk_us]; simp
  · rw [pk_un e, h j (by omega)]
    have : j < l.length := by omega
    simp [List.getElem?_append_left this]
