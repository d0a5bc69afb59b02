theorem addI {n : Nat} {x : Int32} (hn : n ≤ 100) (h0 : 0 ≤ x.toInt) (h1 : x.toInt ≤ 100) : (nI n + x).toInt = n + x.toInt := by
  have e : x = nI x.toInt.toNat := Int32.toInt_inj.mp (by rw [nI_toInt (by omega)]; omega)
  rw [e, nI_add, nI_toInt (by omega), nI_toInt (by omega)]; omega
theorem putM_no {w c : Int32} {nv nk : Nat} {fv fk : Nat → Int32} {v : Int64} (h0 : w = 0 → ¬ (1 ≤ c.toInt ∧ c.toInt ≤ 8 ∧ c.toInt + nv ≤ 100)) (h1 : w = 1 → ¬ (1 ≤ c.toInt ∧ c.toInt ≤ 8 ∧ c.toInt + nk ≤ 100)) :
    0 = (if w = 0 then apR nv c else if w = 1 then apR nk c else 0) ∧ ((fv, nv), (fk, nk)) = (if w = 0 then (apF fv nv v c, (fk, nk)) else if w = 1 then ((fv, nv), apF fk nk v c) else ((fv, nv), (fk, nk))) := by
  by_cases e0 : w = 0
  · rw [if_pos e0, if_pos e0]; unfold apR apF; rw [if_neg (h0 e0), if_neg (h0 e0)]; exact ⟨rfl, rfl⟩
  · rw [if_neg e0, if_neg e0]
    by_cases e1 : w = 1
    · rw [if_pos e1, if_pos e1]; unfold apR apF; rw [if_neg (h1 e1), if_neg (h1 e1)]; exact ⟨rfl, rfl⟩
    · rw [if_neg e1, if_neg e1]; exact ⟨rfl, rfl⟩
theorem apF_ok {f : Nat → Int32} {n : Nat} {v : Int64} {c : Int32} (h : 1 ≤ c.toInt ∧ c.toInt ≤ 8 ∧ c.toInt + n ≤ 100) : apF f n v c = (apA v c.toInt.toNat f n, n + c.toInt.toNat) := if_pos h
theorem apR_ok {n : Nat} {c : Int32} (h : 1 ≤ c.toInt ∧ c.toInt ≤ 8 ∧ c.toInt + n ≤ 100) : apR n c = 1 := if_pos h
theorem bt_neg {w i : Int32} {fv fk : Nat → Int32} {nv nk : Nat} (h : i < 0) : -1 = if w = 0 then ra fv nv i else if w = 1 then ra fk nk i else -1 := by
  rw [ra_neg h, ra_neg h]
  split
  · rfl
  · split <;> rfl
theorem one32 {x : Int32} (h1 : 0 ≤ x.toInt) (h2 : x.toInt ≤ 1) (h3 : ¬ x = 0) : x = 1 := by
  rw [ti_eq, tc_0] at h3; rw [ti_eq, tc_1]; omega
theorem five32 {x : Int32} (h1 : 0 ≤ x.toInt) (h2 : x.toInt ≤ 5) (h0 : ¬ x = 0) (g1 : ¬ x = 1) (g2 : ¬ x = 2) (g3 : ¬ x = 3) (g4 : ¬ x = 4) : x = 5 := by
  rw [ti_eq, tc_0] at h0; rw [ti_eq, tc_1] at g1; rw [ti_eq, tc_2] at g2; rw [ti_eq, tc_3] at g3; rw [ti_eq, tc_4] at g4; rw [ti_eq, tc_5]; omega
theorem ra_ok2 {f : Nat → Int32} {n : Nat} {i : Int32} (h0 : ¬ i < 0) (h : i < nI n) (hn : n ≤ 100) : f i.toNatClampNeg = ra f n i := ra_ok h0 (by rw [ti_le]; rw [ti_lt] at h; omega) hn
theorem ra_vp2 {n : Nat} {i : Int32} (h0 : ¬ i < 0) (h : i < nI n) (hn : n ≤ 100) : vp_in i 100 := ra_vp h0 (by rw [ti_le]; rw [ti_lt] at h; omega) hn
theorem ra_big2 {f : Nat → Int32} {n : Nat} {i : Int32} (h : ¬ i < nI n) (hn : n ≤ 100) : ra f n i = -1 := ra_big (by rw [ti_le]; rw [ti_lt] at h; omega) hn
/-- the reference's number -/
def mnA (f : Nat → Int32) : Nat → Nat → Nat → Nat
  | 0, _, x => x
  | r + 1, i, x => mnA f r (i + 1) (if 3000000000 < x then x else 10 * x + ((f i).toInt.toNat - 48))
def mnN (f : Nat → Int32) (n : Nat) : Nat := if dg f n = 0 then 4000000000 else mnA f (dg f n) 0 0
theorem mnA_next {f : Nat → Int32} {r i x : Nat} (hr : 0 < r) : mnA f r i x = mnA f (r - 1) (i + 1) (if 3000000000 < x then x else 10 * x + ((f i).toInt.toNat - 48)) := by
  cases r with
  | zero => omega
  | succ r => rfl
def nrel (x y : Nat) : Prop := (x = y ∧ x ≤ 3000000000) ∨ (3000000000 < x ∧ 3000000000 < y)
theorem nrel_A (f : Nat → Int32) : ∀ r i x y, nrel x y → nrel (mnA f r i x) (numA f r i y)
  | 0, _, _, _, h => h
  | r + 1, i, x, y, h => by
    refine nrel_A f r (i + 1) _ _ ?_
    generalize (f i).toInt.toNat - 48 = d
    unfold nrel at h ⊢
    rcases h with ⟨rfl, h2⟩ | ⟨h1, h2⟩
    · rw [if_neg (by omega)]; omega
    · rw [if_pos h1]; omega
theorem nrel_N (f : Nat → Int32) (n : Nat) : nrel (mnN f n) (kn f n) := by
  unfold mnN kn
  split
  · exact Or.inr ⟨by omega, by omega⟩
  · exact nrel_A f _ _ _ _ (Or.inl ⟨rfl, by omega⟩)
theorem cs_rel {m : Int} {x y : Nat} {r : Int32} (hm : m ≤ 2147483647) (h : nrel x y) : cs m y r = cs m x r := by
  rcases h with ⟨rfl, -⟩ | ⟨h1, h2⟩
  · rfl
  · unfold cs
    apply decide_eq_decide.mpr
    have e1 : ((y : Int) < m) ↔ ((x : Int) < m) := by omega
    have e2 : ((y : Int) ≤ m) ↔ ((x : Int) ≤ m) := by omega
    have e3 : (m < (y : Int)) ↔ (m < (x : Int)) := by omega
    have e4 : (m ≤ (y : Int)) ↔ (m ≤ (x : Int)) := by omega
    have e5 : (m = (y : Int)) ↔ (m = (x : Int)) := by omega
    have e6 : (m ≠ (y : Int)) ↔ (m ≠ (x : Int)) := by omega
    rw [e1, e2, e3, e4, e5, e6]
theorem i32_le (x : Int32) : x.toInt ≤ 2147483647 := by have h := x.toInt_le; rw [show Int32.maxValue.toInt = 2147483647 from by decide] at h; exact h
theorem mnS {x : Nat} {y : Int32} (h : dgb y = true) (hx : x ≤ 3000000000) : 10 * lN x + y.toInt64 - 48 = lN (10 * x + (y.toInt.toNat - 48)) := by
  have h := of_decide_eq_true h
  have e : y = nI (y.toInt.toNat) := by
    apply Int32.toInt_inj.mp
    rw [nI_toInt (by omega)]; omega
  have e1 : y.toInt64 = lN y.toInt.toNat := by
    conv => lhs; rw [e]
    exact nI_l (by omega)
  have e2 : (10 : Int64) * lN x = lN (10 * x) := lN_mul 10 x
  rw [e1, e2, lN_add]
  have := lN_sub (a := 10 * x + y.toInt.toNat) (b := 48) (by omega)
  rw [show 10 * x + y.toInt.toNat - 48 = 10 * x + (y.toInt.toNat - 48) from by omega] at this
  exact this
theorem tl_3 : (3000000000 : Int64).toInt = 3000000000 := by decide
theorem tl_4 : (4000000000 : Int64) = lN 4000000000 := rfl
