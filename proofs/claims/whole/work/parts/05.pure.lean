/-- the entry i of a row of n entries; -1 if there is none -/
def ra (f : Nat → Int32) (n : Nat) (i : Int32) : Int32 := if 0 ≤ i.toInt ∧ i.toInt < n then f i.toNatClampNeg else -1
theorem ra_neg {f : Nat → Int32} {n : Nat} {i : Int32} (h : i < 0) : ra f n i = -1 := by
  rw [ti_lt, tc_0] at h
  exact if_neg (by omega)
theorem ra_big {f : Nat → Int32} {n : Nat} {i : Int32} (h : nI n ≤ i) (hn : n ≤ 100) : ra f n i = -1 := by
  rw [ti_le, nI_toInt (by omega)] at h
  exact if_neg (by omega)
theorem ra_ok {f : Nat → Int32} {n : Nat} {i : Int32} (h0 : ¬ i < 0) (h : ¬ nI n ≤ i) (hn : n ≤ 100) : f i.toNatClampNeg = ra f n i := by
  rw [ti_le, nI_toInt (by omega)] at h
  rw [ti_lt, tc_0] at h0
  exact (if_pos ⟨by omega, by omega⟩).symm
theorem ra_vp {n : Nat} {i : Int32} (h0 : ¬ i < 0) (h : ¬ nI n ≤ i) (hn : n ≤ 100) : vp_in i 100 := by
  rw [ti_le, nI_toInt (by omega)] at h
  rw [ti_lt, tc_0] at h0
  exact vp_of (by omega) (by omega)
theorem ra_in {f : Nat → Int32} {n j : Nat} (h : j < n) (hn : n ≤ 100) : ra f n (nI j) = f j := by
  unfold ra
  rw [nI_toInt (by omega), if_pos ⟨by omega, by omega⟩, nI_clamp (by omega)]
/-- the first place from i on, at most k further, where p fails -/
def cnt (p : Nat → Bool) : Nat → Nat → Nat
  | 0, i => i
  | k + 1, i => if p i = true then cnt p k (i + 1) else i
theorem cnt_stop {p : Nat → Bool} {k i : Nat} (h : p i = false) : cnt p k i = i := by
  cases k with
  | zero => rfl
  | succ k => simp [cnt, h]
theorem cnt_step {p : Nat → Bool} {k i : Nat} (h : p i = true) (hk : 0 < k) : cnt p k i = cnt p (k - 1) (i + 1) := by
  cases k with
  | zero => omega
  | succ k => simp [cnt, h]
theorem cnt_le (p : Nat → Bool) : ∀ k i, i ≤ cnt p k i ∧ cnt p k i ≤ i + k
  | 0, i => ⟨Nat.le_refl _, Nat.le_refl _⟩
  | k + 1, i => by
    unfold cnt
    split
    · have := cnt_le p k (i + 1); omega
    · omega
theorem cnt_in (p : Nat → Bool) : ∀ k i j, i ≤ j → j < cnt p k i → p j = true
  | 0, i, j, h1, h2 => by simp [cnt] at h2; omega
  | k + 1, i, j, h1, h2 => by
    unfold cnt at h2
    split at h2
    · rcases Nat.lt_or_ge i j with q | q
      · exact cnt_in p k (i + 1) j q h2
      · have : j = i := by omega
        subst this; assumption
    · omega
/-- a digit -/
def dgb (x : Int32) : Bool := decide (48 ≤ x.toInt ∧ x.toInt ≤ 57)
theorem dgb_lt {x : Int32} (h : x < 48) : dgb x = false := by
  rw [ti_lt, tc_48] at h; exact decide_eq_false (by omega)
theorem dgb_gt {x : Int32} (h : 57 < x) : dgb x = false := by
  rw [ti_lt, tc_57] at h; exact decide_eq_false (by omega)
theorem dgb_in {x : Int32} (h : ¬ x < 48) (h2 : ¬ 57 < x) : dgb x = true := by
  rw [ti_lt, tc_48] at h; rw [ti_lt, tc_57] at h2; exact decide_eq_true (by omega)
/-- how many digits a row begins with -/
def dg (f : Nat → Int32) (n : Nat) : Nat := cnt (fun j => dgb (f j)) n 0
theorem dg_le (f : Nat → Int32) (n : Nat) : dg f n ≤ n := by have := (cnt_le (fun j => dgb (f j)) n 0).2; unfold dg; omega
/-- how many zeros the first e bytes begin with -/
def zr (f : Nat → Int32) (e : Nat) : Nat := cnt (fun j => decide (f j = 48)) e 0
theorem zr_le (f : Nat → Int32) (n : Nat) : zr f n ≤ n := by have := (cnt_le (fun j => decide (f j = 48)) n 0).2; unfold zr; omega
/-- a .. z as A .. Z for the comparator 0 -/
def fo (x c : Int32) : Int32 := if c = 0 ∧ 97 ≤ x.toInt ∧ x.toInt ≤ 122 then x - 32 else x
/-- the sign of a against b -/
def sg (a b : Int32) : Int32 := if a < b then -1 else if b < a then 1 else 0
theorem sg_self (a : Int32) : sg a a = 0 := by
  unfold sg
  rw [if_neg (by rw [ti_lt]; omega), if_neg (by rw [ti_lt]; omega)]
theorem sg_ne {a b : Int32} (h : a ≠ b) : sg a b = if a < b then -1 else 1 := by
  unfold sg
  by_cases q : a < b
  · rw [if_pos q, if_pos q]
  · rw [if_neg q, if_neg q, if_pos]
    rw [ti_lt] at q ⊢
    have : a.toInt ≠ b.toInt := fun e => h (Int32.toInt_inj.mp e)
    omega
theorem sg_0 {a b : Int32} : sg a b = 0 ↔ a = b := by
  constructor
  · intro h
    by_cases q : a = b
    · exact q
    · rw [sg_ne q] at h
      split at h <;> exact absurd h (by decide)
  · rintro rfl; exact sg_self _
theorem sub32 (x : Int32) : x - 97 + 65 = x - 32 := by
  rw [Int32.sub_eq_add_neg, Int32.sub_eq_add_neg, Int32.add_assoc]; rfl
theorem sg_l {a b : Int32} (h : ¬ b ≤ a) : -1 = sg a b := by
  unfold sg; rw [if_pos (by rw [ti_lt]; rw [ti_le] at h; omega)]
theorem sg_g {a b : Int32} (h : b ≤ a) (h2 : ¬ a ≤ b) : 1 = sg a b := by
  unfold sg; rw [ti_le] at h h2; rw [if_neg (by rw [ti_lt]; omega), if_pos (by rw [ti_lt]; omega)]
theorem sg_e {a b : Int32} (h : b ≤ a) (h2 : a ≤ b) : 0 = sg a b := by
  unfold sg; rw [ti_le] at h h2; rw [if_neg (by rw [ti_lt]; omega), if_neg (by rw [ti_lt]; omega)]
theorem fo_t {x c : Int32} (h1 : ¬ x < 97) (h2 : ¬ 122 < x) (hc : c = 0) : fo x c = x - 32 := by
  rw [ti_lt, tc_97] at h1; rw [ti_lt, tc_122] at h2; exact if_pos ⟨hc, by omega, by omega⟩
theorem fo_c {x c : Int32} (hc : ¬ c = 0) : fo x c = x := if_neg (fun h => hc h.1)
theorem fo_l {x c : Int32} (h : x < 97) : fo x c = x := by
  rw [ti_lt, tc_97] at h; exact if_neg (by omega)
theorem fo_g {x c : Int32} (h : 122 < x) : fo x c = x := by
  rw [ti_lt, tc_122] at h; exact if_neg (by omega)
