/-- the classes whose objects the worlds hold -/
abbrev cl5 : List vw_C := [(RX0, TX0, 2), (RX1, TX1, 2), (RX2, TX2, 3), (RX3, TX3, 4), (RX4, TX4, 12)]
theorem inX0 : ∀ w ∈ u_ws RX0 TX0 2, w ∈ wsA := show ∀ w ∈ ([Cond.laysFinal "GlobDesk$Pattern" "GlobDesk$Pattern" "marks" "[I", Cond.lays "GlobDesk$Pattern" "GlobDesk$Pattern" "length" "I"] : List Cond), w ∈ wsA from List.forall_mem_cons.mpr ⟨mw55, List.forall_mem_cons.mpr ⟨mw57, fun _ h => absurd h List.not_mem_nil⟩⟩
theorem inX1 : ∀ w ∈ u_ws RX1 TX1 2, w ∈ wsA := show ∀ w ∈ ([Cond.laysFinal "GlobDesk$Row" "GlobDesk$Row" "bytes" "[I", Cond.lays "GlobDesk$Row" "GlobDesk$Row" "length" "I"] : List Cond), w ∈ wsA from List.forall_mem_cons.mpr ⟨mw40, List.forall_mem_cons.mpr ⟨mw42, fun _ h => absurd h List.not_mem_nil⟩⟩
theorem inX2 : ∀ w ∈ u_ws RX2 TX2 3, w ∈ wsA := show ∀ w ∈ ([Cond.laysFinal "GlobDesk$Spans" "GlobDesk$Spans" "begins" "[I", Cond.laysFinal "GlobDesk$Spans" "GlobDesk$Spans" "lengths" "[I", Cond.lays "GlobDesk$Spans" "GlobDesk$Spans" "length" "I"] : List Cond), w ∈ wsA from List.forall_mem_cons.mpr ⟨mw70, List.forall_mem_cons.mpr ⟨mw72, List.forall_mem_cons.mpr ⟨mw74, fun _ h => absurd h List.not_mem_nil⟩⟩⟩
theorem inX3 : ∀ w ∈ u_ws RX3 TX3 4, w ∈ wsA := show ∀ w ∈ ([Cond.laysFinal "GlobDesk" "GlobDesk" "value" "LGlobDesk$Row;", Cond.laysFinal "GlobDesk" "GlobDesk" "key" "LGlobDesk$Row;", Cond.laysFinal "GlobDesk" "GlobDesk" "pattern" "LGlobDesk$Pattern;", Cond.laysFinal "GlobDesk" "GlobDesk" "found" "LGlobDesk$Spans;"] : List Cond), w ∈ wsA from List.forall_mem_cons.mpr ⟨mw81, List.forall_mem_cons.mpr ⟨mw83, List.forall_mem_cons.mpr ⟨mw85, List.forall_mem_cons.mpr ⟨mw87, fun _ h => absurd h List.not_mem_nil⟩⟩⟩⟩
theorem inX4 : ∀ w ∈ u_ws RX4 TX4 12, w ∈ wsA := show ∀ w ∈ ([Cond.lays "GlobDeskModel" "GlobDeskModel" "thrownCode" "I", Cond.laysFinal "GlobDeskModel" "GlobDeskModel" "value" "[I", Cond.laysFinal "GlobDeskModel" "GlobDeskModel" "key" "[I", Cond.lays "GlobDeskModel" "GlobDeskModel" "values" "I", Cond.lays "GlobDeskModel" "GlobDeskModel" "keys" "I", Cond.lays "GlobDeskModel" "GlobDeskModel" "signs" "I", Cond.laysFinal "GlobDeskModel" "GlobDeskModel" "sign" "[I", Cond.laysFinal "GlobDeskModel" "GlobDeskModel" "literal" "[I", Cond.laysFinal "GlobDeskModel" "GlobDeskModel" "can" "[Z", Cond.lays "GlobDeskModel" "GlobDeskModel" "spanCount" "I", Cond.laysFinal "GlobDeskModel" "GlobDeskModel" "from" "[I", Cond.laysFinal "GlobDeskModel" "GlobDeskModel" "many" "[I"] : List Cond), w ∈ wsA from List.forall_mem_cons.mpr ⟨mw256, List.forall_mem_cons.mpr ⟨mw258, List.forall_mem_cons.mpr ⟨mw260, List.forall_mem_cons.mpr ⟨mw262, List.forall_mem_cons.mpr ⟨mw264, List.forall_mem_cons.mpr ⟨mw266, List.forall_mem_cons.mpr ⟨mw268, List.forall_mem_cons.mpr ⟨mw270, List.forall_mem_cons.mpr ⟨mw272, List.forall_mem_cons.mpr ⟨mw274, List.forall_mem_cons.mpr ⟨mw276, List.forall_mem_cons.mpr ⟨mw278, fun _ h => absurd h List.not_mem_nil⟩⟩⟩⟩⟩⟩⟩⟩⟩⟩⟩⟩
theorem gV {own C : String} {idx : Nat} {y : MethodName} {c : ByteArray} {n : Nat} {r : Option FieldType} (h1 : Cond.methodLink own idx y ∈ wsA) (h2 : Cond.instanceMethod y ∈ wsA) (h3 : Cond.selects C y y ∈ wsA) (h4 : Cond.initialized C ∈ wsA) (h5 : Cond.code y c n r ∈ wsA) : GoodIn wsA (wsV own idx C y (.code y c n r :: wsA)) := goodA (by
  intro w h
  simp only [wsV, List.mem_append, List.mem_cons, List.not_mem_nil, or_false] at h
  rcases h with (h | h | h | h) | h | h
  · rw [h]; exact h1
  · rw [h]; exact h2
  · rw [h]; exact h3
  · rw [h]; exact h4
  · rw [h]; exact h5
  · exact h)
theorem gS {own : String} {idx : Nat} {y : MethodName} {c : ByteArray} {n : Nat} {r : Option FieldType} (h1 : Cond.methodLink own idx y ∈ wsA) (h2 : Cond.static y ∈ wsA) (h4 : Cond.initialized own ∈ wsA) (h5 : Cond.code y c n r ∈ wsA) : GoodIn wsA (wsS own idx y (.code y c n r :: wsA)) := goodA (by
  intro w h
  simp only [wsS, List.mem_append, List.mem_cons, List.not_mem_nil, or_false] at h
  rcases h with (h | h | h) | h | h
  · rw [h]; exact h1
  · rw [h]; exact h2
  · rw [h]; exact h4
  · rw [h]; exact h5
  · exact h)
theorem gI {y : MethodName} {c : ByteArray} {n : Nat} {r : Option FieldType} (h5 : Cond.code y c n r ∈ wsA) : GoodIn wsA (.code y c n r :: wsA) := goodA (fun w h => by
  rcases List.mem_cons.mp h with h | h
  · rw [h]; exact h5
  · exact h)
/-- the links between nest mates -/
def nz (U : State) : Prop := va_Nw (Cond.methodLinkNest "GlobDesk" 9 yX1_init "GlobDesk") U ∧ va_Nw (Cond.fieldLinkNest "GlobDesk$Pattern" 19 "GlobDesk$Row" "length" "I" "GlobDesk") U ∧ va_Nw (Cond.fieldLinkNest "GlobDesk" 41 "GlobDesk$Row" "length" "I" "GlobDesk") U ∧ va_Nw (Cond.methodLinkNest "GlobDesk" 21 yX0_init "GlobDesk") U ∧ va_Nw (Cond.fieldLinkNest "GlobDesk" 83 "GlobDesk$Pattern" "length" "I" "GlobDesk") U ∧ va_Nw (Cond.methodLinkNest "GlobDesk" 28 yX2_init "GlobDesk") U ∧ va_Nw (Cond.fieldLinkNest "GlobDesk" 49 "GlobDesk$Spans" "length" "I" "GlobDesk") U
theorem nz.warm {s U : State} (hW : s.WarmedH U.vm) (h : nz s) : nz U := ⟨va_Nw.warmM hW h.1, va_Nw.warmF hW h.2.1, va_Nw.warmF hW h.2.2.1, va_Nw.warmM hW h.2.2.2.1, va_Nw.warmF hW h.2.2.2.2.1, va_Nw.warmM hW h.2.2.2.2.2.1, va_Nw.warmF hW h.2.2.2.2.2.2⟩
theorem nz.call {U : State} {g : JFrame} {mk : MethodId} {a : Array Value} (h : nz U) : nz (U.calling g mk a) := ⟨va_Nw.same (u := U) rfl rfl h.1, va_Nw.same (u := U) rfl rfl h.2.1, va_Nw.same (u := U) rfl rfl h.2.2.1, va_Nw.same (u := U) rfl rfl h.2.2.2.1, va_Nw.same (u := U) rfl rfl h.2.2.2.2.1, va_Nw.same (u := U) rfl rfl h.2.2.2.2.2.1, va_Nw.same (u := U) rfl rfl h.2.2.2.2.2.2⟩
/-- a method that reads: what it needs of the world -/
def ro (D : va_G) (ws : va_W) (tys : List (ClassId × FieldType)) (U : State) : Prop := nz U ∧ va_P D cl5 ws U.heap ∧ va_K D cl5 tys U
theorem ro.call {D : va_G} {ws : va_W} {tys : List (ClassId × FieldType)} {U : State} {g : JFrame} {mk : MethodId} {a : Array Value} (h : ro D ws tys U) : ro D ws tys (U.calling g mk a) := ⟨h.1.call, h.2.1, va_K.moved (u := U) (U := U.calling g mk a) (Vm.Alike.refl U.vm) h.2.2⟩
theorem ro.V {s : State} {H : Heap} {D : va_G} {ws : va_W} {tys : List (ClassId × FieldType)} {C : String} {T : u_T} {N b q0 ci : Nat} {fs As : List Value} (hN : nz s) (hK : va_K D cl5 tys s) (hP : va_P D cl5 ws H) (hc : cl5[ci]? = some (C, T, N)) (he : ws[q0]? = some (b, .inr (ci, fs))) : PreV s H C b (va_Pc (.ref b :: As) (ro D ws tys)) As :=
  ⟨fun _ _ _ _ q => ⟨q.1, q.2.call⟩, va_recv hK hP hc he, fun U hU hW => ⟨rfl, hN.warm hW, by rw [hU]; exact hP, va_K.moved hW.alike hK⟩⟩
theorem ro.S {s : State} {H : Heap} {D : va_G} {ws : va_W} {tys : List (ClassId × FieldType)} {As : List Value} (hN : nz s) (hK : va_K D cl5 tys s) (hP : va_P D cl5 ws H) : PreS s H (va_Pc As (ro D ws tys)) As :=
  ⟨fun _ _ _ _ q => ⟨q.1, q.2.call⟩, fun U hU hW => ⟨rfl, hN.warm hW, by rw [hU]; exact hP, va_K.moved hW.alike hK⟩⟩
theorem st.S {s : State} {H : Heap} {As : List Value} : PreS s H (va_Pc As (fun _ => True)) As := ⟨fun _ _ _ _ q => q, fun _ _ _ => ⟨rfl, trivial⟩⟩
/-- a method that writes: what it needs of the world -/
def wr (D : va_G) (ws : va_W) (tys : List (ClassId × FieldType)) (sz : Nat) (U : State) : Prop := U.heap.size = sz ∧ nz U ∧ va_P D cl5 ws U.heap ∧ va_K D cl5 tys U ∧ va_D (fun _ => True) ws
theorem wr.call {D : va_G} {ws : va_W} {tys : List (ClassId × FieldType)} {sz : Nat} {U : State} {g : JFrame} {mk : MethodId} {a : Array Value} (h : wr D ws tys sz U) : wr D ws tys sz (U.calling g mk a) := ⟨h.1, h.2.1.call, h.2.2.1, va_K.moved (u := U) (U := U.calling g mk a) (Vm.Alike.refl U.vm) h.2.2.2.1, h.2.2.2.2⟩
theorem wr.V {s : State} {H : Heap} {D : va_G} {ws : va_W} {tys : List (ClassId × FieldType)} {A : Nat → Prop} {C : String} {T : u_T} {N b q0 ci : Nat} {fs As : List Value} (hN : nz s) (hK : va_K D cl5 tys s) (hP : va_P D cl5 ws H) (hD : va_D A ws) (hc : cl5[ci]? = some (C, T, N)) (he : ws[q0]? = some (b, .inr (ci, fs))) : PreV s H C b (va_Pc (.ref b :: As) (wr D ws tys H.size)) As :=
  ⟨fun _ _ _ _ q => ⟨q.1, q.2.call⟩, va_recv hK hP hc he, fun U hU hW => ⟨rfl, by rw [hU], hN.warm hW, by rw [hU]; exact hP, va_K.moved hW.alike hK, hD.weaken (fun _ _ _ _ => trivial)⟩⟩
theorem wr.S {s : State} {H : Heap} {D : va_G} {ws : va_W} {tys : List (ClassId × FieldType)} {A : Nat → Prop} {As : List Value} (hN : nz s) (hK : va_K D cl5 tys s) (hP : va_P D cl5 ws H) (hD : va_D A ws) : PreS s H (va_Pc As (wr D ws tys H.size)) As :=
  ⟨fun _ _ _ _ q => ⟨q.1, q.2.call⟩, fun U hU hW => ⟨rfl, by rw [hU], hN.warm hW, by rw [hU]; exact hP, va_K.moved hW.alike hK, hD.weaken (fun _ _ _ _ => trivial)⟩⟩
/-- the world behind a writer: the cells that u says -/
def wB {S : Type} (D : va_G) (A : Nat → Prop) (Wf : S → va_W) (u : S) (t : State) : Prop := va_P D cl5 (Wf u) t.heap ∧ va_D A (Wf u)
-- numbers
theorem nI_inc (i : Nat) : nI i + Int32.ofInt 1 = nI (i + 1) := nI_1 i
theorem ti_lt {a b : Int32} : a < b ↔ a.toInt < b.toInt := Int32.lt_iff_toInt_lt
theorem ti_le {a b : Int32} : a ≤ b ↔ a.toInt ≤ b.toInt := Int32.le_iff_toInt_le
theorem ti_eq {a b : Int32} : a = b ↔ a.toInt = b.toInt := Int32.toInt_inj.symm
theorem ti_cl {a : Int32} : a.toNatClampNeg = a.toInt.toNat := rfl
theorem vp_of {x : Int32} {n : Nat} (h0 : 0 ≤ x.toInt) (h1 : x.toInt < n) : vp_in x n := vp_in_iff.mpr ⟨h0, h1⟩
theorem tc_m2 : (-2 : Int32).toInt = -2 := by decide
theorem tc_m1 : (-1 : Int32).toInt = -1 := by decide
theorem tc_0 : (0 : Int32).toInt = 0 := by decide
theorem tc_1 : (1 : Int32).toInt = 1 := by decide
theorem tc_2 : (2 : Int32).toInt = 2 := by decide
theorem tc_3 : (3 : Int32).toInt = 3 := by decide
theorem tc_4 : (4 : Int32).toInt = 4 := by decide
theorem tc_5 : (5 : Int32).toInt = 5 := by decide
theorem tc_8 : (8 : Int32).toInt = 8 := by decide
theorem tc_32 : (32 : Int32).toInt = 32 := by decide
theorem tc_42 : (42 : Int32).toInt = 42 := by decide
theorem tc_48 : (48 : Int32).toInt = 48 := by decide
theorem tc_57 : (57 : Int32).toInt = 57 := by decide
theorem tc_63 : (63 : Int32).toInt = 63 := by decide
theorem tc_65 : (65 : Int32).toInt = 65 := by decide
theorem tc_90 : (90 : Int32).toInt = 90 := by decide
theorem tc_92 : (92 : Int32).toInt = 92 := by decide
theorem tc_97 : (97 : Int32).toInt = 97 := by decide
theorem tc_100 : (100 : Int32).toInt = 100 := by decide
theorem tc_101 : (101 : Int32).toInt = 101 := by decide
theorem tc_102 : (102 : Int32).toInt = 102 := by decide
theorem tc_122 : (122 : Int32).toInt = 122 := by decide
theorem tc_255 : (255 : Int32).toInt = 255 := by decide
theorem tc_256 : (256 : Int32).toInt = 256 := by decide
theorem tc_257 : (257 : Int32).toInt = 257 := by decide
