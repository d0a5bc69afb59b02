/-- a mark against a byte -/
def mok (m x c : Int32) : Bool := decide (m = 256 ∨ fo m c = fo x c)
/-- k marks from i on fit the bytes from p on -/
def fitA (mk v : Nat → Int32) (c : Int32) : Nat → Nat → Nat → Bool
  | 0, _, _ => true
  | k + 1, i, p => mok (mk i) (v p) c && fitA mk v c k (i + 1) (p + 1)
theorem fitA_no {mk v : Nat → Int32} {c : Int32} {k i p : Nat} (hk : 0 < k) (h : mok (mk i) (v p) c = false) : fitA mk v c k i p = false := by
  cases k with
  | zero => omega
  | succ k => simp [fitA, h]
theorem fitA_yes {mk v : Nat → Int32} {c : Int32} {k i p : Nat} (hk : 0 < k) (h : mok (mk i) (v p) c = true) : fitA mk v c k i p = fitA mk v c (k - 1) (i + 1) (p + 1) := by
  cases k with
  | zero => omega
  | succ k => simp [fitA, h]
/-- the marks a .. b - 1 fit the value's bytes from p on -/
def fitB (mk v : Nat → Int32) (nv : Nat) (c : Int32) (a b p : Nat) : Bool := decide (p + (b - a) ≤ nv) && fitA mk v c (b - a) a p
/-- the first place from p on, of the next k, where they fit; -1 if there is none -/
def fpA (mk v : Nat → Int32) (nv : Nat) (c : Int32) (a b : Nat) : Nat → Nat → Int32
  | 0, _ => -1
  | k + 1, p => if fitB mk v nv c a b p = true then nI p else fpA mk v nv c a b k (p + 1)
def fpF (mk v : Nat → Int32) (nv : Nat) (c : Int32) (a b e : Nat) : Int32 := fpA mk v nv c a b (nv + 1 - (b - a) - e) e
theorem fpA_hit {mk v : Nat → Int32} {nv : Nat} {c : Int32} {a b k p : Nat} (hk : 0 < k) (h : fitB mk v nv c a b p = true) : fpA mk v nv c a b k p = nI p := by
  cases k with
  | zero => omega
  | succ k => simp [fpA, h]
theorem fpA_next {mk v : Nat → Int32} {nv : Nat} {c : Int32} {a b k p : Nat} (hk : 0 < k) (h : fitB mk v nv c a b p = false) : fpA mk v nv c a b k p = fpA mk v nv c a b (k - 1) (p + 1) := by
  cases k with
  | zero => omega
  | succ k => simp [fpA, h]
theorem ifb {b : Bool} (h : ¬ (if b = true then (1 : Int32) else 0) = 0) : b = true := by
  cases b
  · exact absurd rfl h
  · rfl
theorem ifb0 {b : Bool} (h : (if b = true then (1 : Int32) else 0) = 0) : b = false := by
  cases b
  · rfl
  · exact absurd h (by decide)
theorem lat {nv a b : Nat} (h : a ≤ b) (hb : b ≤ 100) (hv : nv ≤ 100) : (nI nv - (nI b - nI a)).toInt = (nv : Int) - (b - a : Nat) := by
  rw [pk_sub h, pk_sub_toInt (by omega) (by omega)]
/-- rows by their bytes -/
def sbA (v k : Nat → Int32) (nv nk : Nat) (c : Int32) : Nat → Nat → Int32
  | 0, _ => sg (nI nv) (nI nk)
  | r + 1, i => if sg (fo (v i) c) (fo (k i) c) = 0 then sbA v k nv nk c r (i + 1) else sg (fo (v i) c) (fo (k i) c)
def sbF (v k : Nat → Int32) (nv nk : Nat) (c : Int32) : Int32 := sbA v k nv nk c (min nv nk) 0
theorem sbA_hit {v k : Nat → Int32} {nv nk : Nat} {c : Int32} {r i : Nat} (hr : 0 < r) (h : ¬ sg (fo (v i) c) (fo (k i) c) = 0) : sbA v k nv nk c r i = sg (fo (v i) c) (fo (k i) c) := by
  cases r with
  | zero => omega
  | succ r => simp [sbA, h]
theorem sbA_next {v k : Nat → Int32} {nv nk : Nat} {c : Int32} {r i : Nat} (hr : 0 < r) (h : sg (fo (v i) c) (fo (k i) c) = 0) : sbA v k nv nk c r i = sbA v k nv nk c (r - 1) (i + 1) := by
  cases r with
  | zero => omega
  | succ r => simp [sbA, h]
theorem min32 {a b : Nat} (ha : a ≤ 100) (hb : b ≤ 100) : (if nI b < nI a then nI b else nI a) = nI (min a b) := by
  split
  · rename_i h; rw [nI_ltI (by omega) (by omega)] at h; rw [Nat.min_eq_right (by omega)]
  · rename_i h; rw [nI_ltI (by omega) (by omega)] at h; rw [Nat.min_eq_left (by omega)]
theorem max32 {a b : Nat} (ha : a ≤ 100) (hb : b ≤ 100) : (if nI a < nI b then nI b else nI a) = nI (max a b) := by
  split
  · rename_i h; rw [nI_ltI (by omega) (by omega)] at h; rw [Nat.max_eq_right (by omega)]
  · rename_i h; rw [nI_ltI (by omega) (by omega)] at h; rw [Nat.max_eq_left (by omega)]
/-- digits by digits -/
def snA (v k : Nat → Int32) : Nat → Nat → Nat → Int32
  | 0, _, _ => 0
  | r + 1, i, j => if sg (v i) (k j) = 0 then snA v k r (i + 1) (j + 1) else sg (v i) (k j)
theorem snA_hit {v k : Nat → Int32} {r i j : Nat} (hr : 0 < r) (h : ¬ sg (v i) (k j) = 0) : snA v k r i j = sg (v i) (k j) := by
  cases r with
  | zero => omega
  | succ r => simp [snA, h]
theorem snA_next {v k : Nat → Int32} {r i j : Nat} (hr : 0 < r) (h : sg (v i) (k j) = 0) : snA v k r i j = snA v k (r - 1) (i + 1) (j + 1) := by
  cases r with
  | zero => omega
  | succ r => simp [snA, h]
/-- rows by their numbers -/
def snF (v k : Nat → Int32) (nv nk : Nat) : Int32 :=
  if dg v nv = 0 ∨ dg k nk = 0 then (if dg v nv = dg k nk then 0 else if dg v nv = 0 then 1 else -1)
  else if sg (nI (dg v nv - zr v (dg v nv))) (nI (dg k nk - zr k (dg k nk))) = 0 then snA v k (dg v nv - zr v (dg v nv)) (zr v (dg v nv)) (zr k (dg k nk))
  else sg (nI (dg v nv - zr v (dg v nv))) (nI (dg k nk - zr k (dg k nk)))
/-- the order of two rows by a comparator -/
def stF (v k : Nat → Int32) (nv nk : Nat) (c : Int32) : Int32 := if c = 2 then snF v k nv nk else sbF v k nv nk c
/-- the number that digits are, no closer than 10^10 -/
def numA (f : Nat → Int32) : Nat → Nat → Nat → Nat
  | 0, _, x => x
  | r + 1, i, x => numA f r (i + 1) (min 10000000000 (x * 10 + ((f i).toInt.toNat - 48)))
theorem numA_next {f : Nat → Int32} {r i x : Nat} (hr : 0 < r) : numA f r i x = numA f (r - 1) (i + 1) (min 10000000000 (x * 10 + ((f i).toInt.toNat - 48))) := by
  cases r with
  | zero => omega
  | succ r => rfl
def kn (f : Nat → Int32) (n : Nat) : Nat := if dg f n = 0 then 10000000000 else numA f (dg f n) 0 0
theorem numA_le (f : Nat → Int32) : ∀ r i x, x ≤ 10000000000 → numA f r i x ≤ 10000000000
  | 0, _, _, h => h
  | r + 1, i, x, _ => numA_le f r (i + 1) _ (Nat.min_le_left _ _)
theorem kn_le (f : Nat → Int32) (n : Nat) : kn f n ≤ 10000000000 := by
  unfold kn; split
  · exact Nat.le_refl _
  · exact numA_le f _ _ _ (by omega)
theorem dgv {x : Int32} (h : dgb x = true) : (x - 48).toInt64 = lN (x.toInt.toNat - 48) := by
  have h := of_decide_eq_true h
  have e : x = nI (x.toInt.toNat) := by
    apply Int32.toInt_inj.mp
    rw [nI_toInt (by omega)]; omega
  have e2 : x - 48 = nI (x.toInt.toNat - 48) := by
    conv => lhs; rw [e]
    exact pk_sub (b := 48) (by omega)
  rw [e2, nI_l (by omega)]
theorem numS {x d : Nat} (hx : x ≤ 10000000000) (hd : d ≤ 9) : (if lN x * 10 + lN d < 10000000000 then lN x * 10 + lN d else (10000000000 : Int64)) = lN (min 10000000000 (x * 10 + d)) := by
  have e1 : lN x * 10 = lN (x * 10) := lN_mul x 10
  have e2 : (10000000000 : Int64) = lN 10000000000 := rfl
  rw [e1, lN_add, e2]
  split
  · rename_i h; rw [pk_lLT (by omega) (by omega)] at h; rw [Nat.min_eq_right (by omega)]
  · rename_i h; rw [pk_lLT (by omega) (by omega)] at h; rw [Nat.min_eq_left (by omega)]
/-- so many against a number as a relation says -/
def cs (m N : Int) (r : Int32) : Bool := decide (0 ≤ m ∧ ((r = 0 ∧ N < m) ∨ (r = 1 ∧ N ≤ m) ∨ (r = 2 ∧ m < N) ∨ (r = 3 ∧ m ≤ N) ∨ (r = 4 ∧ m = N) ∨ (r = 5 ∧ m ≠ N)))
theorem i64 (x : Int32) : x.toInt64.toInt = x.toInt := by simp
theorem tl_lt {a b : Int64} : a < b ↔ a.toInt < b.toInt := Int64.lt_iff_toInt_lt
theorem tl_le {a b : Int64} : a ≤ b ↔ a.toInt ≤ b.toInt := Int64.le_iff_toInt_le
theorem tl_eq {a b : Int64} : a = b ↔ a.toInt = b.toInt := Int64.toInt_inj.symm
