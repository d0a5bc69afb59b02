def B_X1_init (D : va_G) (A : Nat → Prop) (h0 : Nat) (_ : Unit) (t : State) : Prop := ∃ (q : Nat) (k : ClassId), va_P D cl5 [(h0, .inr (1, [.ref q, .int (nI 0)])), (q, .inl (k, 100, .inl (fun _ => 0)))] t.heap ∧ va_K D cl5 [(k, .int)] t ∧ va_D A [(h0, .inr (1, [.ref q, .int (nI 0)])), (q, .inl (k, 100, .inl (fun _ => 0)))]
abbrev rm_c_X1_init : Room := { frames := 1, cells := 1, slots := 100, locals := 12 }
set_option maxHeartbeats 4000000 in
set_option maxRecDepth 100000 in
theorem c_X1_init (l : Launch) (dC : Nat → ClassId) (dI : Nat → Nat → Nat) (sz : Nat) (h0 : Nat) : Met l yX1_init (.code yX1_init cX1_init 1 none :: wsA) rm_c_X1_init (va_Pc [.ref h0] (wr (dC, dI) [(h0, .inr (1, [.null, .int (0)]))] [] sz)) (va_Qv (fun _ : Unit => True) (B_X1_init (dC, dI) (va_A [(h0, .inr (1, [.null, .int (0)]))] sz) h0) (va_A [(h0, .inr (1, [.null, .int (0)]))] sz)) 1 100 (va_A [(h0, .inr (1, [.null, .int (0)]))] sz) := by
  refine Met.ofW (cc := cX1_init) (maxL := 1) (ret := none) (by decide) rfl ?_
  intro p e s m args below meth c s₁ B hml hv
  obtain ⟨hargs, hsz, hN, hP, hK, hD0⟩ := hv
  have hx := B.exec
  have hb := B.bytes
  have hr := B.returns
  have hw : ∀ w ∈ wsA, w.before args s = true := fun w h => atoms_spec (ws := (.code yX1_init cX1_init 1 none :: wsA)) B.pre w (List.mem_cons_of_mem _ h)
  have hown : s.vm.findClass "GlobDesk$Row" = some m.cls := findClass_of_methodNamed B.named
  have hlocks := B.notSynchronized
  have hin : meth.name = "<init>" := (name_of_methodNamed B.named B.method).1
  subst hsz
  have hD := hD0.self (sz := s.heap.size)
  generalize hAe : va_A [(h0, .inr (1, [.null, .int (0)]))] s.heap.size = A at hD ⊢
  have hA : ∀ q : Nat, s.heap.size ≤ q → A q := fun q h => by rw [← hAe]; exact Or.inr h
  have hS : va_S A s.heap s.heap [] := va_S.rf
  generalize hQ : MQ below _ args s _ _ _ = Q
  change W p l e rm_c_X1_init s m args below meth c s.heap [] 0 0 Q (entryFrame m args 1)
  have hl := lv_entry ([.ref h0]) (n := 1) (Nat.le_of_ble_eq_true rfl)
  rw [show entryFrame m args 1 = entryFrame m ([.ref h0] : List Value).toArray 1 from by rw [hargs], lg_entry_eq]
  generalize (lg_sl ([.ref h0]) ++ List.replicate (1 - (lg_sl ([.ref h0])).length) Slot.unset).toArray = ls at hl ⊢
  have hl : lv_has ls 1 [(0, .ref h0)] := hl
  refine lv_aload_n hx hb dX1_init_0 rfl (lv_at hl 0 rfl) ?_
  refine W.objInit hx hb hown (hw _ mw35) (hw _ mw28) (hw _ mw29) rfl (by rw [hml]; exact hl.1) rfl dX1_init_1 (Nat.le_of_ble_eq_true rfl) (Nat.le_of_ble_eq_true rfl) ?_
  refine W.eq (g2 := F0 m 4 ls []) rfl ?_
  refine lv_aload_n hx hb dX1_init_4 rfl (lv_at hl 0 rfl) ?_
  refine lv_bipush (v := 100) hx hb dX1_init_5 (by decide) ?_
  refine va_newa (atype := .int) (ty := .int) (a0 := (100, .inl (fun _ => 0))) (N' := 100) hx hb (hw _ mw45) rfl hK hP hD hS hA (fun _ => rfl) (by decide) (by decide) (Nat.le_of_ble_eq_true rfl) (Nat.le_of_ble_eq_true rfl) (Nat.le_of_ble_eq_true rfl) dX1_init_7 (fun qa7 ka7 H hK hP hD hS => ?_)
  have hK : va_K (dC, dI) cl5 [(ka7, .int)] s := hK
  have hP : va_P (dC, dI) cl5 [(h0, .inr (1, [.null, .int (0)])), (qa7, .inl (ka7, 100, .inl (fun _ => 0)))] H := hP
  have hD : va_D A [(h0, .inr (1, [.null, .int (0)])), (qa7, .inl (ka7, 100, .inl (fun _ => 0)))] := hD
  refine W.widen (k := 1) (n := 100) (by omega) (by omega) ?_
  refine va_putF (D := (dC, dI)) (ci := 1) (v := .ref qa7) (ty := .array .int) (C := RX1) (T := TX1) (N := 2) hx hb hw inX1 tyX1 tyX1_ok nmX1 hown hK hP hD hS 0 rfl rfl 0 (by decide) (hw _ mw36) (fun _ h9 => h9) rfl hin rfl (by decide +kernel) rfl rfl (Nat.le_of_ble_eq_true rfl) dX1_init_9 (fun H locs hP hD hS => ?_)
  have hP : va_P (dC, dI) cl5 [(h0, .inr (1, [.ref qa7, .int (0)])), (qa7, .inl (ka7, 100, .inl (fun _ => 0)))] H := hP
  have hD : va_D A [(h0, .inr (1, [.ref qa7, .int (0)])), (qa7, .inl (ka7, 100, .inl (fun _ => 0)))] := hD
  refine lv_aload_n hx hb dX1_init_12 rfl (lv_at hl 0 rfl) ?_
  refine lv_iconst (v := 0) hx hb dX1_init_13 (by decide) ?_
  refine lv_topi (fun x1 ex1 => ?_)
  obtain rfl : x1 = nI 0 := by rw [ex1]; exact nI_0.symm
  refine va_put (D := (dC, dI)) (ci := 1) (v := .int (nI 0)) (ty := .int) (C := RX1) (T := TX1) (N := 2) hx hb hw inX1 tyX1 tyX1_ok nmX1 hown hK hP hD hS 0 rfl rfl 1 (by decide) (hw _ mw37) (fun _ h9 => h9) rfl (by decide +kernel) rfl rfl (Nat.le_of_ble_eq_true rfl) dX1_init_14 (fun H locs hP hD hS => ?_)
  have hP : va_P (dC, dI) cl5 [(h0, .inr (1, [.ref qa7, .int (nI 0)])), (qa7, .inl (ka7, 100, .inl (fun _ => 0)))] H := hP
  have hD : va_D A [(h0, .inr (1, [.ref qa7, .int (nI 0)])), (qa7, .inl (ka7, 100, .inl (fun _ => 0)))] := hD
  subst hQ
  have hP9 := hP.sub (ws' := [(h0, .inr (1, [.ref qa7, .int (nI 0)])), (qa7, .inl (ka7, 100, .inl (fun _ => 0)))]) [0, 1] rfl
  have hD9 := hD.sub (ws' := [(h0, .inr (1, [.ref qa7, .int (nI 0)])), (qa7, .inl (ka7, 100, .inl (fun _ => 0)))]) [0, 1] (by decide) rfl
  have hK9 := hK.sub (tys' := [(ka7, .int)]) [0] rfl
  refine W.widen (k := 1) (n := 100) (by omega) (by omega) ?_
  exact W.vret hx hb hr (fun t ht hW => ⟨⟨(), rfl, trivial, qa7, ka7, by rw [ht]; exact hP9, va_K.moved hW.alike hK9, hD9⟩, hS.F ht⟩) hS.2.2 dX1_init_17

def B_X0_init (D : va_G) (A : Nat → Prop) (h0 : Nat) (_ : Unit) (t : State) : Prop := ∃ (q : Nat) (k : ClassId), va_P D cl5 [(h0, .inr (0, [.ref q, .int (nI 0)])), (q, .inl (k, 100, .inl (fun _ => 0)))] t.heap ∧ va_K D cl5 [(k, .int)] t ∧ va_D A [(h0, .inr (0, [.ref q, .int (nI 0)])), (q, .inl (k, 100, .inl (fun _ => 0)))]
abbrev rm_c_X0_init : Room := { frames := 1, cells := 1, slots := 100, locals := 12 }
set_option maxHeartbeats 4000000 in
set_option maxRecDepth 100000 in
theorem c_X0_init (l : Launch) (dC : Nat → ClassId) (dI : Nat → Nat → Nat) (sz : Nat) (h0 : Nat) : Met l yX0_init (.code yX0_init cX0_init 1 none :: wsA) rm_c_X0_init (va_Pc [.ref h0] (wr (dC, dI) [(h0, .inr (0, [.null, .int (0)]))] [] sz)) (va_Qv (fun _ : Unit => True) (B_X0_init (dC, dI) (va_A [(h0, .inr (0, [.null, .int (0)]))] sz) h0) (va_A [(h0, .inr (0, [.null, .int (0)]))] sz)) 1 100 (va_A [(h0, .inr (0, [.null, .int (0)]))] sz) := by
  refine Met.ofW (cc := cX0_init) (maxL := 1) (ret := none) (by decide) rfl ?_
  intro p e s m args below meth c s₁ B hml hv
  obtain ⟨hargs, hsz, hN, hP, hK, hD0⟩ := hv
  have hx := B.exec
  have hb := B.bytes
  have hr := B.returns
  have hw : ∀ w ∈ wsA, w.before args s = true := fun w h => atoms_spec (ws := (.code yX0_init cX0_init 1 none :: wsA)) B.pre w (List.mem_cons_of_mem _ h)
  have hown : s.vm.findClass "GlobDesk$Pattern" = some m.cls := findClass_of_methodNamed B.named
  have hlocks := B.notSynchronized
  have hin : meth.name = "<init>" := (name_of_methodNamed B.named B.method).1
  subst hsz
  have hD := hD0.self (sz := s.heap.size)
  generalize hAe : va_A [(h0, .inr (0, [.null, .int (0)]))] s.heap.size = A at hD ⊢
  have hA : ∀ q : Nat, s.heap.size ≤ q → A q := fun q h => by rw [← hAe]; exact Or.inr h
  have hS : va_S A s.heap s.heap [] := va_S.rf
  generalize hQ : MQ below _ args s _ _ _ = Q
  change W p l e rm_c_X0_init s m args below meth c s.heap [] 0 0 Q (entryFrame m args 1)
  have hl := lv_entry ([.ref h0]) (n := 1) (Nat.le_of_ble_eq_true rfl)
  rw [show entryFrame m args 1 = entryFrame m ([.ref h0] : List Value).toArray 1 from by rw [hargs], lg_entry_eq]
  generalize (lg_sl ([.ref h0]) ++ List.replicate (1 - (lg_sl ([.ref h0])).length) Slot.unset).toArray = ls at hl ⊢
  have hl : lv_has ls 1 [(0, .ref h0)] := hl
  refine lv_aload_n hx hb dX0_init_0 rfl (lv_at hl 0 rfl) ?_
  refine W.objInit hx hb hown (hw _ mw51) (hw _ mw28) (hw _ mw29) rfl (by rw [hml]; exact hl.1) rfl dX0_init_1 (Nat.le_of_ble_eq_true rfl) (Nat.le_of_ble_eq_true rfl) ?_
  refine W.eq (g2 := F0 m 4 ls []) rfl ?_
  refine lv_aload_n hx hb dX0_init_4 rfl (lv_at hl 0 rfl) ?_
  refine lv_bipush (v := 100) hx hb dX0_init_5 (by decide) ?_
  refine va_newa (atype := .int) (ty := .int) (a0 := (100, .inl (fun _ => 0))) (N' := 100) hx hb (hw _ mw45) rfl hK hP hD hS hA (fun _ => rfl) (by decide) (by decide) (Nat.le_of_ble_eq_true rfl) (Nat.le_of_ble_eq_true rfl) (Nat.le_of_ble_eq_true rfl) dX0_init_7 (fun qa7 ka7 H hK hP hD hS => ?_)
  have hK : va_K (dC, dI) cl5 [(ka7, .int)] s := hK
  have hP : va_P (dC, dI) cl5 [(h0, .inr (0, [.null, .int (0)])), (qa7, .inl (ka7, 100, .inl (fun _ => 0)))] H := hP
  have hD : va_D A [(h0, .inr (0, [.null, .int (0)])), (qa7, .inl (ka7, 100, .inl (fun _ => 0)))] := hD
  refine W.widen (k := 1) (n := 100) (by omega) (by omega) ?_
  refine va_putF (D := (dC, dI)) (ci := 0) (v := .ref qa7) (ty := .array .int) (C := RX0) (T := TX0) (N := 2) hx hb hw inX0 tyX0 tyX0_ok nmX0 hown hK hP hD hS 0 rfl rfl 0 (by decide) (hw _ mw52) (fun _ h9 => h9) rfl hin rfl (by decide +kernel) rfl rfl (Nat.le_of_ble_eq_true rfl) dX0_init_9 (fun H locs hP hD hS => ?_)
  have hP : va_P (dC, dI) cl5 [(h0, .inr (0, [.ref qa7, .int (0)])), (qa7, .inl (ka7, 100, .inl (fun _ => 0)))] H := hP
  have hD : va_D A [(h0, .inr (0, [.ref qa7, .int (0)])), (qa7, .inl (ka7, 100, .inl (fun _ => 0)))] := hD
  refine lv_aload_n hx hb dX0_init_12 rfl (lv_at hl 0 rfl) ?_
  refine lv_iconst (v := 0) hx hb dX0_init_13 (by decide) ?_
  refine lv_topi (fun x1 ex1 => ?_)
  obtain rfl : x1 = nI 0 := by rw [ex1]; exact nI_0.symm
  refine va_put (D := (dC, dI)) (ci := 0) (v := .int (nI 0)) (ty := .int) (C := RX0) (T := TX0) (N := 2) hx hb hw inX0 tyX0 tyX0_ok nmX0 hown hK hP hD hS 0 rfl rfl 1 (by decide) (hw _ mw53) (fun _ h9 => h9) rfl (by decide +kernel) rfl rfl (Nat.le_of_ble_eq_true rfl) dX0_init_14 (fun H locs hP hD hS => ?_)
  have hP : va_P (dC, dI) cl5 [(h0, .inr (0, [.ref qa7, .int (nI 0)])), (qa7, .inl (ka7, 100, .inl (fun _ => 0)))] H := hP
  have hD : va_D A [(h0, .inr (0, [.ref qa7, .int (nI 0)])), (qa7, .inl (ka7, 100, .inl (fun _ => 0)))] := hD
  subst hQ
  have hP9 := hP.sub (ws' := [(h0, .inr (0, [.ref qa7, .int (nI 0)])), (qa7, .inl (ka7, 100, .inl (fun _ => 0)))]) [0, 1] rfl
  have hD9 := hD.sub (ws' := [(h0, .inr (0, [.ref qa7, .int (nI 0)])), (qa7, .inl (ka7, 100, .inl (fun _ => 0)))]) [0, 1] (by decide) rfl
  have hK9 := hK.sub (tys' := [(ka7, .int)]) [0] rfl
  refine W.widen (k := 1) (n := 100) (by omega) (by omega) ?_
  exact W.vret hx hb hr (fun t ht hW => ⟨⟨(), rfl, trivial, qa7, ka7, by rw [ht]; exact hP9, va_K.moved hW.alike hK9, hD9⟩, hS.F ht⟩) hS.2.2 dX0_init_17

def B_X2_init (D : va_G) (A : Nat → Prop) (h0 : Nat) (_ : Unit) (t : State) : Prop := ∃ (q1 q2 : Nat) (k1 k2 : ClassId), va_P D cl5 [(h0, .inr (2, [.ref q1, .ref q2, .int (nI 0)])), (q1, .inl (k1, 100, .inl (fun _ => 0))), (q2, .inl (k2, 100, .inl (fun _ => 0)))] t.heap ∧ va_K D cl5 [(k1, .int), (k2, .int)] t ∧ va_D A [(h0, .inr (2, [.ref q1, .ref q2, .int (nI 0)])), (q1, .inl (k1, 100, .inl (fun _ => 0))), (q2, .inl (k2, 100, .inl (fun _ => 0)))]
abbrev rm_c_X2_init : Room := { frames := 1, cells := 2, slots := 200, locals := 12 }
set_option maxHeartbeats 4000000 in
set_option maxRecDepth 100000 in
theorem c_X2_init (l : Launch) (dC : Nat → ClassId) (dI : Nat → Nat → Nat) (sz : Nat) (h0 : Nat) : Met l yX2_init (.code yX2_init cX2_init 1 none :: wsA) rm_c_X2_init (va_Pc [.ref h0] (wr (dC, dI) [(h0, .inr (2, [.null, .null, .int (0)]))] [] sz)) (va_Qv (fun _ : Unit => True) (B_X2_init (dC, dI) (va_A [(h0, .inr (2, [.null, .null, .int (0)]))] sz) h0) (va_A [(h0, .inr (2, [.null, .null, .int (0)]))] sz)) 2 200 (va_A [(h0, .inr (2, [.null, .null, .int (0)]))] sz) := by
  refine Met.ofW (cc := cX2_init) (maxL := 1) (ret := none) (by decide) rfl ?_
  intro p e s m args below meth c s₁ B hml hv
  obtain ⟨hargs, hsz, hN, hP, hK, hD0⟩ := hv
  have hx := B.exec
  have hb := B.bytes
  have hr := B.returns
  have hw : ∀ w ∈ wsA, w.before args s = true := fun w h => atoms_spec (ws := (.code yX2_init cX2_init 1 none :: wsA)) B.pre w (List.mem_cons_of_mem _ h)
  have hown : s.vm.findClass "GlobDesk$Spans" = some m.cls := findClass_of_methodNamed B.named
  have hlocks := B.notSynchronized
  have hin : meth.name = "<init>" := (name_of_methodNamed B.named B.method).1
  subst hsz
  have hD := hD0.self (sz := s.heap.size)
  generalize hAe : va_A [(h0, .inr (2, [.null, .null, .int (0)]))] s.heap.size = A at hD ⊢
  have hA : ∀ q : Nat, s.heap.size ≤ q → A q := fun q h => by rw [← hAe]; exact Or.inr h
  have hS : va_S A s.heap s.heap [] := va_S.rf
  generalize hQ : MQ below _ args s _ _ _ = Q
  change W p l e rm_c_X2_init s m args below meth c s.heap [] 0 0 Q (entryFrame m args 1)
  have hl := lv_entry ([.ref h0]) (n := 1) (Nat.le_of_ble_eq_true rfl)
  rw [show entryFrame m args 1 = entryFrame m ([.ref h0] : List Value).toArray 1 from by rw [hargs], lg_entry_eq]
  generalize (lg_sl ([.ref h0]) ++ List.replicate (1 - (lg_sl ([.ref h0])).length) Slot.unset).toArray = ls at hl ⊢
  have hl : lv_has ls 1 [(0, .ref h0)] := hl
  refine lv_aload_n hx hb dX2_init_0 rfl (lv_at hl 0 rfl) ?_
  refine W.objInit hx hb hown (hw _ mw65) (hw _ mw28) (hw _ mw29) rfl (by rw [hml]; exact hl.1) rfl dX2_init_1 (Nat.le_of_ble_eq_true rfl) (Nat.le_of_ble_eq_true rfl) ?_
  refine W.eq (g2 := F0 m 4 ls []) rfl ?_
  refine lv_aload_n hx hb dX2_init_4 rfl (lv_at hl 0 rfl) ?_
  refine lv_bipush (v := 100) hx hb dX2_init_5 (by decide) ?_
  refine va_newa (atype := .int) (ty := .int) (a0 := (100, .inl (fun _ => 0))) (N' := 100) hx hb (hw _ mw45) rfl hK hP hD hS hA (fun _ => rfl) (by decide) (by decide) (Nat.le_of_ble_eq_true rfl) (Nat.le_of_ble_eq_true rfl) (Nat.le_of_ble_eq_true rfl) dX2_init_7 (fun qa7 ka7 H hK hP hD hS => ?_)
  have hK : va_K (dC, dI) cl5 [(ka7, .int)] s := hK
  have hP : va_P (dC, dI) cl5 [(h0, .inr (2, [.null, .null, .int (0)])), (qa7, .inl (ka7, 100, .inl (fun _ => 0)))] H := hP
  have hD : va_D A [(h0, .inr (2, [.null, .null, .int (0)])), (qa7, .inl (ka7, 100, .inl (fun _ => 0)))] := hD
  refine W.widen (k := 1) (n := 100) (by omega) (by omega) ?_
  refine va_putF (D := (dC, dI)) (ci := 2) (v := .ref qa7) (ty := .array .int) (C := RX2) (T := TX2) (N := 3) hx hb hw inX2 tyX2 tyX2_ok nmX2 hown hK hP hD hS 0 rfl rfl 0 (by decide) (hw _ mw66) (fun _ h9 => h9) rfl hin rfl (by decide +kernel) rfl rfl (Nat.le_of_ble_eq_true rfl) dX2_init_9 (fun H locs hP hD hS => ?_)
  have hP : va_P (dC, dI) cl5 [(h0, .inr (2, [.ref qa7, .null, .int (0)])), (qa7, .inl (ka7, 100, .inl (fun _ => 0)))] H := hP
  have hD : va_D A [(h0, .inr (2, [.ref qa7, .null, .int (0)])), (qa7, .inl (ka7, 100, .inl (fun _ => 0)))] := hD
  refine lv_aload_n hx hb dX2_init_12 rfl (lv_at hl 0 rfl) ?_
  refine lv_bipush (v := 100) hx hb dX2_init_13 (by decide) ?_
  refine va_newa (atype := .int) (ty := .int) (a0 := (100, .inl (fun _ => 0))) (N' := 100) hx hb (hw _ mw45) rfl hK hP hD hS hA (fun _ => rfl) (by decide) (by decide) (Nat.le_of_ble_eq_true rfl) (Nat.le_of_ble_eq_true rfl) (Nat.le_of_ble_eq_true rfl) dX2_init_15 (fun qa15 ka15 H hK hP hD hS => ?_)
  have hK : va_K (dC, dI) cl5 [(ka7, .int), (ka15, .int)] s := hK
  have hP : va_P (dC, dI) cl5 [(h0, .inr (2, [.ref qa7, .null, .int (0)])), (qa7, .inl (ka7, 100, .inl (fun _ => 0))), (qa15, .inl (ka15, 100, .inl (fun _ => 0)))] H := hP
  have hD : va_D A [(h0, .inr (2, [.ref qa7, .null, .int (0)])), (qa7, .inl (ka7, 100, .inl (fun _ => 0))), (qa15, .inl (ka15, 100, .inl (fun _ => 0)))] := hD
  refine W.widen (k := 2) (n := 200) (by omega) (by omega) ?_
  refine va_putF (D := (dC, dI)) (ci := 2) (v := .ref qa15) (ty := .array .int) (C := RX2) (T := TX2) (N := 3) hx hb hw inX2 tyX2 tyX2_ok nmX2 hown hK hP hD hS 0 rfl rfl 1 (by decide) (hw _ mw67) (fun _ h9 => h9) rfl hin rfl (by decide +kernel) rfl rfl (Nat.le_of_ble_eq_true rfl) dX2_init_17 (fun H locs hP hD hS => ?_)
  have hP : va_P (dC, dI) cl5 [(h0, .inr (2, [.ref qa7, .ref qa15, .int (0)])), (qa7, .inl (ka7, 100, .inl (fun _ => 0))), (qa15, .inl (ka15, 100, .inl (fun _ => 0)))] H := hP
  have hD : va_D A [(h0, .inr (2, [.ref qa7, .ref qa15, .int (0)])), (qa7, .inl (ka7, 100, .inl (fun _ => 0))), (qa15, .inl (ka15, 100, .inl (fun _ => 0)))] := hD
  refine lv_aload_n hx hb dX2_init_20 rfl (lv_at hl 0 rfl) ?_
  refine lv_iconst (v := 0) hx hb dX2_init_21 (by decide) ?_
  refine lv_topi (fun x1 ex1 => ?_)
  obtain rfl : x1 = nI 0 := by rw [ex1]; exact nI_0.symm
  refine va_put (D := (dC, dI)) (ci := 2) (v := .int (nI 0)) (ty := .int) (C := RX2) (T := TX2) (N := 3) hx hb hw inX2 tyX2 tyX2_ok nmX2 hown hK hP hD hS 0 rfl rfl 2 (by decide) (hw _ mw68) (fun _ h9 => h9) rfl (by decide +kernel) rfl rfl (Nat.le_of_ble_eq_true rfl) dX2_init_22 (fun H locs hP hD hS => ?_)
  have hP : va_P (dC, dI) cl5 [(h0, .inr (2, [.ref qa7, .ref qa15, .int (nI 0)])), (qa7, .inl (ka7, 100, .inl (fun _ => 0))), (qa15, .inl (ka15, 100, .inl (fun _ => 0)))] H := hP
  have hD : va_D A [(h0, .inr (2, [.ref qa7, .ref qa15, .int (nI 0)])), (qa7, .inl (ka7, 100, .inl (fun _ => 0))), (qa15, .inl (ka15, 100, .inl (fun _ => 0)))] := hD
  subst hQ
  have hP9 := hP.sub (ws' := [(h0, .inr (2, [.ref qa7, .ref qa15, .int (nI 0)])), (qa7, .inl (ka7, 100, .inl (fun _ => 0))), (qa15, .inl (ka15, 100, .inl (fun _ => 0)))]) [0, 1, 2] rfl
  have hD9 := hD.sub (ws' := [(h0, .inr (2, [.ref qa7, .ref qa15, .int (nI 0)])), (qa7, .inl (ka7, 100, .inl (fun _ => 0))), (qa15, .inl (ka15, 100, .inl (fun _ => 0)))]) [0, 1, 2] (by decide) rfl
  have hK9 := hK.sub (tys' := [(ka7, .int), (ka15, .int)]) [0, 1] rfl
  refine W.widen (k := 2) (n := 200) (by omega) (by omega) ?_
  exact W.vret hx hb hr (fun t ht hW => ⟨⟨(), rfl, trivial, qa7, qa15, ka7, ka15, by rw [ht]; exact hP9, va_K.moved hW.alike hK9, hD9⟩, hS.F ht⟩) hS.2.2 dX2_init_25

def B_X3_init (D : va_G) (A : Nat → Prop) (h0 : Nat) (_ : Unit) (t : State) : Prop := ∃ (rv rk pt sp av ak ap a1 a2 : Nat) (kv kk kp k1 k2 : ClassId), va_P D cl5 [(h0, .inr (3, [.ref rv, .ref rk, .ref pt, .ref sp])), (rv, .inr (1, [.ref av, .int (nI 0)])), (av, .inl (kv, 100, .inl (fun _ => 0))), (rk, .inr (1, [.ref ak, .int (nI 0)])), (ak, .inl (kk, 100, .inl (fun _ => 0))), (pt, .inr (0, [.ref ap, .int (nI 0)])), (ap, .inl (kp, 100, .inl (fun _ => 0))), (sp, .inr (2, [.ref a1, .ref a2, .int (nI 0)])), (a1, .inl (k1, 100, .inl (fun _ => 0))), (a2, .inl (k2, 100, .inl (fun _ => 0)))] t.heap ∧ va_K D cl5 [(kv, .int), (kk, .int), (kp, .int), (k1, .int), (k2, .int)] t ∧ va_D A [(h0, .inr (3, [.ref rv, .ref rk, .ref pt, .ref sp])), (rv, .inr (1, [.ref av, .int (nI 0)])), (av, .inl (kv, 100, .inl (fun _ => 0))), (rk, .inr (1, [.ref ak, .int (nI 0)])), (ak, .inl (kk, 100, .inl (fun _ => 0))), (pt, .inr (0, [.ref ap, .int (nI 0)])), (ap, .inl (kp, 100, .inl (fun _ => 0))), (sp, .inr (2, [.ref a1, .ref a2, .int (nI 0)])), (a1, .inl (k1, 100, .inl (fun _ => 0))), (a2, .inl (k2, 100, .inl (fun _ => 0)))]
abbrev rm_c_X3_init : Room := { frames := 2, cells := 9, slots := 509, locals := 32 }
set_option maxHeartbeats 4000000 in
set_option maxRecDepth 100000 in
theorem c_X3_init (l : Launch) (dC : Nat → ClassId) (dI : Nat → Nat → Nat) (sz : Nat) (h0 : Nat) : Met l yX3_init (.code yX3_init cX3_init 1 none :: wsA) rm_c_X3_init (va_Pc [.ref h0] (wr (dC, dI) [(h0, .inr (3, [.null, .null, .null, .null]))] [] sz)) (va_Qv (fun _ : Unit => True) (B_X3_init (dC, dI) (va_A [(h0, .inr (3, [.null, .null, .null, .null]))] sz) h0) (va_A [(h0, .inr (3, [.null, .null, .null, .null]))] sz)) 9 509 (va_A [(h0, .inr (3, [.null, .null, .null, .null]))] sz) := by
  refine Met.ofW (cc := cX3_init) (maxL := 1) (ret := none) (by decide) rfl ?_
  intro p e s m args below meth c s₁ B hml hv
  obtain ⟨hargs, hsz, hN, hP, hK, hD0⟩ := hv
  have hx := B.exec
  have hb := B.bytes
  have hr := B.returns
  have hw : ∀ w ∈ wsA, w.before args s = true := fun w h => atoms_spec (ws := (.code yX3_init cX3_init 1 none :: wsA)) B.pre w (List.mem_cons_of_mem _ h)
  have hown : s.vm.findClass "GlobDesk" = some m.cls := findClass_of_methodNamed B.named
  have hlocks := B.notSynchronized
  have hin : meth.name = "<init>" := (name_of_methodNamed B.named B.method).1
  subst hsz
  have hD := hD0.self (sz := s.heap.size)
  generalize hAe : va_A [(h0, .inr (3, [.null, .null, .null, .null]))] s.heap.size = A at hD ⊢
  have hA : ∀ q : Nat, s.heap.size ≤ q → A q := fun q h => by rw [← hAe]; exact Or.inr h
  have hS : va_S A s.heap s.heap [] := va_S.rf
  generalize hQ : MQ below _ args s _ _ _ = Q
  change W p l e rm_c_X3_init s m args below meth c s.heap [] 0 0 Q (entryFrame m args 1)
  have hl := lv_entry ([.ref h0]) (n := 1) (Nat.le_of_ble_eq_true rfl)
  rw [show entryFrame m args 1 = entryFrame m ([.ref h0] : List Value).toArray 1 from by rw [hargs], lg_entry_eq]
  generalize (lg_sl ([.ref h0]) ++ List.replicate (1 - (lg_sl ([.ref h0])).length) Slot.unset).toArray = ls at hl ⊢
  have hl : lv_has ls 1 [(0, .ref h0)] := hl
  refine lv_aload_n hx hb dX3_init_0 rfl (lv_at hl 0 rfl) ?_
  refine W.objInit hx hb hown (hw _ mw27) (hw _ mw28) (hw _ mw29) rfl (by rw [hml]; exact hl.1) rfl dX3_init_1 (Nat.le_of_ble_eq_true rfl) (Nat.le_of_ble_eq_true rfl) ?_
  refine W.eq (g2 := F0 m 4 ls []) rfl ?_
  refine lv_aload_n hx hb dX3_init_4 rfl (lv_at hl 0 rfl) ?_
  refine va_new (ci := 1) (fs := [.null, .int (0)]) (C := RX1) (T := TX1) (N := 2) hx hb hw inX1 tyX1 tyX1_ok hown (hw _ mw30) (hw _ mw31) (hw _ mw17) hK hP hD hS hA rfl (fun j hj => by rcases (show j = 0 ∨ j = 1 by omega) with rfl | rfl <;> rfl) (Nat.le_of_ble_eq_true rfl) (Nat.le_of_ble_eq_true rfl) dX3_init_5 (fun qo5 H hP hD hS => ?_)
  have hP : va_P (dC, dI) cl5 [(h0, .inr (3, [.null, .null, .null, .null])), (qo5, .inr (1, [.null, .int (0)]))] H := hP
  have hD : va_D A [(h0, .inr (3, [.null, .null, .null, .null])), (qo5, .inr (1, [.null, .int (0)]))] := hD
  refine W.widen (k := 1) (n := 2) (by omega) (by omega) ?_
  refine lv_dup hx hb dX3_init_8 rfl ?_
  have hPc := hP.sub (ws' := [(qo5, .inr (1, [.null, .int (0)]))]) [1] rfl
  have hDc := hD.sub (ws' := [(qo5, .inr (1, [.null, .int (0)]))]) [1] (by decide) rfl
  have hKc := hK.sub (tys' := []) [] rfl
  have hFc := va_free (wc := [(qo5, .inr (1, [.null, .int (0)]))]) hD hS hA [1] rfl
  refine va_callv (va_runIN (As := []) (rest := [.ref qo5, .ref h0]) ⟨hx, hb, hml, hown, hw⟩ (c_X1_init l dC dI H.size qo5) ⟨va_cnB 0 hw (gI mw34) rfl rfl rfl hN.1 (hw _ mw17) (by decide +kernel) ⟨Nat.le_of_ble_eq_true rfl, Nat.le_of_ble_eq_true rfl⟩, rfl, hw _ mw33⟩ (wr.S hN hKc hPc hDc) rfl rfl hl.1 rfl (lv_room (Nat.le_of_ble_eq_true rfl)) dX3_init_9 ⟨Nat.le_of_ble_eq_true rfl, Nat.le_of_ble_eq_true rfl⟩) hS (fun q _ h => hFc q h) hFc (fun u t H1 locs ht hvm hu hB hz1 hk1 hS => ?_)
  obtain ⟨q_9, k_9, hP1, hK1, hD1⟩ := hB
  rw [ht] at hP1
  have hK1 := va_K.moved hvm.symm hK1
  obtain ⟨hP, hD⟩ := va_join (wr := [(h0, .inr (3, [.null, .null, .null, .null]))]) (w1 := [(qo5, .inr (1, [.ref q_9, .int (nI 0)])), (q_9, .inl (k_9, 100, .inl (fun _ => 0)))]) hP hD [1] [0] rfl rfl (by decide) (by decide) hk1 hFc hP1 hD1
  have hK := hK.app hK1
  generalize H1 = H at hP hS ⊢
  have hK : va_K (dC, dI) cl5 [(k_9, .int)] s := hK
  have hP : va_P (dC, dI) cl5 [(h0, .inr (3, [.null, .null, .null, .null])), (qo5, .inr (1, [.ref q_9, .int (nI 0)])), (q_9, .inl (k_9, 100, .inl (fun _ => 0)))] H := hP
  have hD : va_D A [(h0, .inr (3, [.null, .null, .null, .null])), (qo5, .inr (1, [.ref q_9, .int (nI 0)])), (q_9, .inl (k_9, 100, .inl (fun _ => 0)))] := hD
  refine W.widen (k := 2) (n := 102) (by omega) (by omega) ?_
  refine va_putF (D := (dC, dI)) (ci := 3) (v := .ref qo5) (ty := .object "GlobDesk$Row") (C := RX3) (T := TX3) (N := 4) hx hb hw inX3 tyX3 tyX3_ok nmX3 hown hK hP hD hS 0 rfl rfl 0 (by decide) (hw _ mw77) (fun _ h9 => h9) rfl hin rfl (by decide +kernel) rfl rfl (Nat.le_of_ble_eq_true rfl) dX3_init_12 (fun H locs hP hD hS => ?_)
  have hP : va_P (dC, dI) cl5 [(h0, .inr (3, [.ref qo5, .null, .null, .null])), (qo5, .inr (1, [.ref q_9, .int (nI 0)])), (q_9, .inl (k_9, 100, .inl (fun _ => 0)))] H := hP
  have hD : va_D A [(h0, .inr (3, [.ref qo5, .null, .null, .null])), (qo5, .inr (1, [.ref q_9, .int (nI 0)])), (q_9, .inl (k_9, 100, .inl (fun _ => 0)))] := hD
  refine lv_aload_n hx hb dX3_init_15 rfl (lv_at hl 0 rfl) ?_
  refine va_new (ci := 1) (fs := [.null, .int (0)]) (C := RX1) (T := TX1) (N := 2) hx hb hw inX1 tyX1 tyX1_ok hown (hw _ mw30) (hw _ mw31) (hw _ mw17) hK hP hD hS hA rfl (fun j hj => by rcases (show j = 0 ∨ j = 1 by omega) with rfl | rfl <;> rfl) (Nat.le_of_ble_eq_true rfl) (Nat.le_of_ble_eq_true rfl) dX3_init_16 (fun qo16 H hP hD hS => ?_)
  have hP : va_P (dC, dI) cl5 [(h0, .inr (3, [.ref qo5, .null, .null, .null])), (qo5, .inr (1, [.ref q_9, .int (nI 0)])), (q_9, .inl (k_9, 100, .inl (fun _ => 0))), (qo16, .inr (1, [.null, .int (0)]))] H := hP
  have hD : va_D A [(h0, .inr (3, [.ref qo5, .null, .null, .null])), (qo5, .inr (1, [.ref q_9, .int (nI 0)])), (q_9, .inl (k_9, 100, .inl (fun _ => 0))), (qo16, .inr (1, [.null, .int (0)]))] := hD
  refine W.widen (k := 3) (n := 104) (by omega) (by omega) ?_
  refine lv_dup hx hb dX3_init_19 rfl ?_
  have hPc := hP.sub (ws' := [(qo16, .inr (1, [.null, .int (0)]))]) [3] rfl
  have hDc := hD.sub (ws' := [(qo16, .inr (1, [.null, .int (0)]))]) [3] (by decide) rfl
  have hKc := hK.sub (tys' := []) [] rfl
  have hFc := va_free (wc := [(qo16, .inr (1, [.null, .int (0)]))]) hD hS hA [3] rfl
  refine va_callv (va_runIN (As := []) (rest := [.ref qo16, .ref h0]) ⟨hx, hb, hml, hown, hw⟩ (c_X1_init l dC dI H.size qo16) ⟨va_cnB 0 hw (gI mw34) rfl rfl rfl hN.1 (hw _ mw17) (by decide +kernel) ⟨Nat.le_of_ble_eq_true rfl, Nat.le_of_ble_eq_true rfl⟩, rfl, hw _ mw33⟩ (wr.S hN hKc hPc hDc) rfl rfl hl.1 rfl (lv_room (Nat.le_of_ble_eq_true rfl)) dX3_init_20 ⟨Nat.le_of_ble_eq_true rfl, Nat.le_of_ble_eq_true rfl⟩) hS (fun q _ h => hFc q h) hFc (fun u t H1 locs ht hvm hu hB hz1 hk1 hS => ?_)
  obtain ⟨q_20, k_20, hP1, hK1, hD1⟩ := hB
  rw [ht] at hP1
  have hK1 := va_K.moved hvm.symm hK1
  obtain ⟨hP, hD⟩ := va_join (wr := [(h0, .inr (3, [.ref qo5, .null, .null, .null])), (qo5, .inr (1, [.ref q_9, .int (nI 0)])), (q_9, .inl (k_9, 100, .inl (fun _ => 0)))]) (w1 := [(qo16, .inr (1, [.ref q_20, .int (nI 0)])), (q_20, .inl (k_20, 100, .inl (fun _ => 0)))]) hP hD [3] [0, 1, 2] rfl rfl (by decide) (by decide) hk1 hFc hP1 hD1
  have hK := hK.app hK1
  generalize H1 = H at hP hS ⊢
  have hK : va_K (dC, dI) cl5 [(k_9, .int), (k_20, .int)] s := hK
  have hP : va_P (dC, dI) cl5 [(h0, .inr (3, [.ref qo5, .null, .null, .null])), (qo5, .inr (1, [.ref q_9, .int (nI 0)])), (q_9, .inl (k_9, 100, .inl (fun _ => 0))), (qo16, .inr (1, [.ref q_20, .int (nI 0)])), (q_20, .inl (k_20, 100, .inl (fun _ => 0)))] H := hP
  have hD : va_D A [(h0, .inr (3, [.ref qo5, .null, .null, .null])), (qo5, .inr (1, [.ref q_9, .int (nI 0)])), (q_9, .inl (k_9, 100, .inl (fun _ => 0))), (qo16, .inr (1, [.ref q_20, .int (nI 0)])), (q_20, .inl (k_20, 100, .inl (fun _ => 0)))] := hD
  refine W.widen (k := 4) (n := 204) (by omega) (by omega) ?_
  refine va_putF (D := (dC, dI)) (ci := 3) (v := .ref qo16) (ty := .object "GlobDesk$Row") (C := RX3) (T := TX3) (N := 4) hx hb hw inX3 tyX3 tyX3_ok nmX3 hown hK hP hD hS 0 rfl rfl 1 (by decide) (hw _ mw78) (fun _ h9 => h9) rfl hin rfl (by decide +kernel) rfl rfl (Nat.le_of_ble_eq_true rfl) dX3_init_23 (fun H locs hP hD hS => ?_)
  have hP : va_P (dC, dI) cl5 [(h0, .inr (3, [.ref qo5, .ref qo16, .null, .null])), (qo5, .inr (1, [.ref q_9, .int (nI 0)])), (q_9, .inl (k_9, 100, .inl (fun _ => 0))), (qo16, .inr (1, [.ref q_20, .int (nI 0)])), (q_20, .inl (k_20, 100, .inl (fun _ => 0)))] H := hP
  have hD : va_D A [(h0, .inr (3, [.ref qo5, .ref qo16, .null, .null])), (qo5, .inr (1, [.ref q_9, .int (nI 0)])), (q_9, .inl (k_9, 100, .inl (fun _ => 0))), (qo16, .inr (1, [.ref q_20, .int (nI 0)])), (q_20, .inl (k_20, 100, .inl (fun _ => 0)))] := hD
  refine lv_aload_n hx hb dX3_init_26 rfl (lv_at hl 0 rfl) ?_
  refine va_new (ci := 0) (fs := [.null, .int (0)]) (C := RX0) (T := TX0) (N := 2) hx hb hw inX0 tyX0 tyX0_ok hown (hw _ mw46) (hw _ mw47) (hw _ mw18) hK hP hD hS hA rfl (fun j hj => by rcases (show j = 0 ∨ j = 1 by omega) with rfl | rfl <;> rfl) (Nat.le_of_ble_eq_true rfl) (Nat.le_of_ble_eq_true rfl) dX3_init_27 (fun qo27 H hP hD hS => ?_)
  have hP : va_P (dC, dI) cl5 [(h0, .inr (3, [.ref qo5, .ref qo16, .null, .null])), (qo5, .inr (1, [.ref q_9, .int (nI 0)])), (q_9, .inl (k_9, 100, .inl (fun _ => 0))), (qo16, .inr (1, [.ref q_20, .int (nI 0)])), (q_20, .inl (k_20, 100, .inl (fun _ => 0))), (qo27, .inr (0, [.null, .int (0)]))] H := hP
  have hD : va_D A [(h0, .inr (3, [.ref qo5, .ref qo16, .null, .null])), (qo5, .inr (1, [.ref q_9, .int (nI 0)])), (q_9, .inl (k_9, 100, .inl (fun _ => 0))), (qo16, .inr (1, [.ref q_20, .int (nI 0)])), (q_20, .inl (k_20, 100, .inl (fun _ => 0))), (qo27, .inr (0, [.null, .int (0)]))] := hD
  refine W.widen (k := 5) (n := 206) (by omega) (by omega) ?_
  refine lv_dup hx hb dX3_init_30 rfl ?_
  have hPc := hP.sub (ws' := [(qo27, .inr (0, [.null, .int (0)]))]) [5] rfl
  have hDc := hD.sub (ws' := [(qo27, .inr (0, [.null, .int (0)]))]) [5] (by decide) rfl
  have hKc := hK.sub (tys' := []) [] rfl
  have hFc := va_free (wc := [(qo27, .inr (0, [.null, .int (0)]))]) hD hS hA [5] rfl
  refine va_callv (va_runIN (As := []) (rest := [.ref qo27, .ref h0]) ⟨hx, hb, hml, hown, hw⟩ (c_X0_init l dC dI H.size qo27) ⟨va_cnB 0 hw (gI mw50) rfl rfl rfl hN.2.2.2.1 (hw _ mw18) (by decide +kernel) ⟨Nat.le_of_ble_eq_true rfl, Nat.le_of_ble_eq_true rfl⟩, rfl, hw _ mw49⟩ (wr.S hN hKc hPc hDc) rfl rfl hl.1 rfl (lv_room (Nat.le_of_ble_eq_true rfl)) dX3_init_31 ⟨Nat.le_of_ble_eq_true rfl, Nat.le_of_ble_eq_true rfl⟩) hS (fun q _ h => hFc q h) hFc (fun u t H1 locs ht hvm hu hB hz1 hk1 hS => ?_)
  obtain ⟨q_31, k_31, hP1, hK1, hD1⟩ := hB
  rw [ht] at hP1
  have hK1 := va_K.moved hvm.symm hK1
  obtain ⟨hP, hD⟩ := va_join (wr := [(h0, .inr (3, [.ref qo5, .ref qo16, .null, .null])), (qo5, .inr (1, [.ref q_9, .int (nI 0)])), (q_9, .inl (k_9, 100, .inl (fun _ => 0))), (qo16, .inr (1, [.ref q_20, .int (nI 0)])), (q_20, .inl (k_20, 100, .inl (fun _ => 0)))]) (w1 := [(qo27, .inr (0, [.ref q_31, .int (nI 0)])), (q_31, .inl (k_31, 100, .inl (fun _ => 0)))]) hP hD [5] [0, 1, 2, 3, 4] rfl rfl (by decide) (by decide) hk1 hFc hP1 hD1
  have hK := hK.app hK1
  generalize H1 = H at hP hS ⊢
  have hK : va_K (dC, dI) cl5 [(k_9, .int), (k_20, .int), (k_31, .int)] s := hK
  have hP : va_P (dC, dI) cl5 [(h0, .inr (3, [.ref qo5, .ref qo16, .null, .null])), (qo5, .inr (1, [.ref q_9, .int (nI 0)])), (q_9, .inl (k_9, 100, .inl (fun _ => 0))), (qo16, .inr (1, [.ref q_20, .int (nI 0)])), (q_20, .inl (k_20, 100, .inl (fun _ => 0))), (qo27, .inr (0, [.ref q_31, .int (nI 0)])), (q_31, .inl (k_31, 100, .inl (fun _ => 0)))] H := hP
  have hD : va_D A [(h0, .inr (3, [.ref qo5, .ref qo16, .null, .null])), (qo5, .inr (1, [.ref q_9, .int (nI 0)])), (q_9, .inl (k_9, 100, .inl (fun _ => 0))), (qo16, .inr (1, [.ref q_20, .int (nI 0)])), (q_20, .inl (k_20, 100, .inl (fun _ => 0))), (qo27, .inr (0, [.ref q_31, .int (nI 0)])), (q_31, .inl (k_31, 100, .inl (fun _ => 0)))] := hD
  refine W.widen (k := 6) (n := 306) (by omega) (by omega) ?_
  refine va_putF (D := (dC, dI)) (ci := 3) (v := .ref qo27) (ty := .object "GlobDesk$Pattern") (C := RX3) (T := TX3) (N := 4) hx hb hw inX3 tyX3 tyX3_ok nmX3 hown hK hP hD hS 0 rfl rfl 2 (by decide) (hw _ mw79) (fun _ h9 => h9) rfl hin rfl (by decide +kernel) rfl rfl (Nat.le_of_ble_eq_true rfl) dX3_init_34 (fun H locs hP hD hS => ?_)
  have hP : va_P (dC, dI) cl5 [(h0, .inr (3, [.ref qo5, .ref qo16, .ref qo27, .null])), (qo5, .inr (1, [.ref q_9, .int (nI 0)])), (q_9, .inl (k_9, 100, .inl (fun _ => 0))), (qo16, .inr (1, [.ref q_20, .int (nI 0)])), (q_20, .inl (k_20, 100, .inl (fun _ => 0))), (qo27, .inr (0, [.ref q_31, .int (nI 0)])), (q_31, .inl (k_31, 100, .inl (fun _ => 0)))] H := hP
  have hD : va_D A [(h0, .inr (3, [.ref qo5, .ref qo16, .ref qo27, .null])), (qo5, .inr (1, [.ref q_9, .int (nI 0)])), (q_9, .inl (k_9, 100, .inl (fun _ => 0))), (qo16, .inr (1, [.ref q_20, .int (nI 0)])), (q_20, .inl (k_20, 100, .inl (fun _ => 0))), (qo27, .inr (0, [.ref q_31, .int (nI 0)])), (q_31, .inl (k_31, 100, .inl (fun _ => 0)))] := hD
  refine lv_aload_n hx hb dX3_init_37 rfl (lv_at hl 0 rfl) ?_
  refine va_new (ci := 2) (fs := [.null, .null, .int (0)]) (C := RX2) (T := TX2) (N := 3) hx hb hw inX2 tyX2 tyX2_ok hown (hw _ mw60) (hw _ mw61) (hw _ mw19) hK hP hD hS hA rfl (fun j hj => by rcases (show j = 0 ∨ j = 1 ∨ j = 2 by omega) with rfl | rfl | rfl <;> rfl) (Nat.le_of_ble_eq_true rfl) (Nat.le_of_ble_eq_true rfl) dX3_init_38 (fun qo38 H hP hD hS => ?_)
  have hP : va_P (dC, dI) cl5 [(h0, .inr (3, [.ref qo5, .ref qo16, .ref qo27, .null])), (qo5, .inr (1, [.ref q_9, .int (nI 0)])), (q_9, .inl (k_9, 100, .inl (fun _ => 0))), (qo16, .inr (1, [.ref q_20, .int (nI 0)])), (q_20, .inl (k_20, 100, .inl (fun _ => 0))), (qo27, .inr (0, [.ref q_31, .int (nI 0)])), (q_31, .inl (k_31, 100, .inl (fun _ => 0))), (qo38, .inr (2, [.null, .null, .int (0)]))] H := hP
  have hD : va_D A [(h0, .inr (3, [.ref qo5, .ref qo16, .ref qo27, .null])), (qo5, .inr (1, [.ref q_9, .int (nI 0)])), (q_9, .inl (k_9, 100, .inl (fun _ => 0))), (qo16, .inr (1, [.ref q_20, .int (nI 0)])), (q_20, .inl (k_20, 100, .inl (fun _ => 0))), (qo27, .inr (0, [.ref q_31, .int (nI 0)])), (q_31, .inl (k_31, 100, .inl (fun _ => 0))), (qo38, .inr (2, [.null, .null, .int (0)]))] := hD
  refine W.widen (k := 7) (n := 309) (by omega) (by omega) ?_
  refine lv_dup hx hb dX3_init_41 rfl ?_
  have hPc := hP.sub (ws' := [(qo38, .inr (2, [.null, .null, .int (0)]))]) [7] rfl
  have hDc := hD.sub (ws' := [(qo38, .inr (2, [.null, .null, .int (0)]))]) [7] (by decide) rfl
  have hKc := hK.sub (tys' := []) [] rfl
  have hFc := va_free (wc := [(qo38, .inr (2, [.null, .null, .int (0)]))]) hD hS hA [7] rfl
  refine va_callv (va_runIN (As := []) (rest := [.ref qo38, .ref h0]) ⟨hx, hb, hml, hown, hw⟩ (c_X2_init l dC dI H.size qo38) ⟨va_cnB 0 hw (gI mw64) rfl rfl rfl hN.2.2.2.2.2.1 (hw _ mw19) (by decide +kernel) ⟨Nat.le_of_ble_eq_true rfl, Nat.le_of_ble_eq_true rfl⟩, rfl, hw _ mw63⟩ (wr.S hN hKc hPc hDc) rfl rfl hl.1 rfl (lv_room (Nat.le_of_ble_eq_true rfl)) dX3_init_42 ⟨Nat.le_of_ble_eq_true rfl, Nat.le_of_ble_eq_true rfl⟩) hS (fun q _ h => hFc q h) hFc (fun u t H1 locs ht hvm hu hB hz1 hk1 hS => ?_)
  obtain ⟨q1_42, q2_42, k1_42, k2_42, hP1, hK1, hD1⟩ := hB
  rw [ht] at hP1
  have hK1 := va_K.moved hvm.symm hK1
  obtain ⟨hP, hD⟩ := va_join (wr := [(h0, .inr (3, [.ref qo5, .ref qo16, .ref qo27, .null])), (qo5, .inr (1, [.ref q_9, .int (nI 0)])), (q_9, .inl (k_9, 100, .inl (fun _ => 0))), (qo16, .inr (1, [.ref q_20, .int (nI 0)])), (q_20, .inl (k_20, 100, .inl (fun _ => 0))), (qo27, .inr (0, [.ref q_31, .int (nI 0)])), (q_31, .inl (k_31, 100, .inl (fun _ => 0)))]) (w1 := [(qo38, .inr (2, [.ref q1_42, .ref q2_42, .int (nI 0)])), (q1_42, .inl (k1_42, 100, .inl (fun _ => 0))), (q2_42, .inl (k2_42, 100, .inl (fun _ => 0)))]) hP hD [7] [0, 1, 2, 3, 4, 5, 6] rfl rfl (by decide) (by decide) hk1 hFc hP1 hD1
  have hK := hK.app hK1
  generalize H1 = H at hP hS ⊢
  have hK : va_K (dC, dI) cl5 [(k_9, .int), (k_20, .int), (k_31, .int), (k1_42, .int), (k2_42, .int)] s := hK
  have hP : va_P (dC, dI) cl5 [(h0, .inr (3, [.ref qo5, .ref qo16, .ref qo27, .null])), (qo5, .inr (1, [.ref q_9, .int (nI 0)])), (q_9, .inl (k_9, 100, .inl (fun _ => 0))), (qo16, .inr (1, [.ref q_20, .int (nI 0)])), (q_20, .inl (k_20, 100, .inl (fun _ => 0))), (qo27, .inr (0, [.ref q_31, .int (nI 0)])), (q_31, .inl (k_31, 100, .inl (fun _ => 0))), (qo38, .inr (2, [.ref q1_42, .ref q2_42, .int (nI 0)])), (q1_42, .inl (k1_42, 100, .inl (fun _ => 0))), (q2_42, .inl (k2_42, 100, .inl (fun _ => 0)))] H := hP
  have hD : va_D A [(h0, .inr (3, [.ref qo5, .ref qo16, .ref qo27, .null])), (qo5, .inr (1, [.ref q_9, .int (nI 0)])), (q_9, .inl (k_9, 100, .inl (fun _ => 0))), (qo16, .inr (1, [.ref q_20, .int (nI 0)])), (q_20, .inl (k_20, 100, .inl (fun _ => 0))), (qo27, .inr (0, [.ref q_31, .int (nI 0)])), (q_31, .inl (k_31, 100, .inl (fun _ => 0))), (qo38, .inr (2, [.ref q1_42, .ref q2_42, .int (nI 0)])), (q1_42, .inl (k1_42, 100, .inl (fun _ => 0))), (q2_42, .inl (k2_42, 100, .inl (fun _ => 0)))] := hD
  refine W.widen (k := 9) (n := 509) (by omega) (by omega) ?_
  refine va_putF (D := (dC, dI)) (ci := 3) (v := .ref qo38) (ty := .object "GlobDesk$Spans") (C := RX3) (T := TX3) (N := 4) hx hb hw inX3 tyX3 tyX3_ok nmX3 hown hK hP hD hS 0 rfl rfl 3 (by decide) (hw _ mw80) (fun _ h9 => h9) rfl hin rfl (by decide +kernel) rfl rfl (Nat.le_of_ble_eq_true rfl) dX3_init_45 (fun H locs hP hD hS => ?_)
  have hP : va_P (dC, dI) cl5 [(h0, .inr (3, [.ref qo5, .ref qo16, .ref qo27, .ref qo38])), (qo5, .inr (1, [.ref q_9, .int (nI 0)])), (q_9, .inl (k_9, 100, .inl (fun _ => 0))), (qo16, .inr (1, [.ref q_20, .int (nI 0)])), (q_20, .inl (k_20, 100, .inl (fun _ => 0))), (qo27, .inr (0, [.ref q_31, .int (nI 0)])), (q_31, .inl (k_31, 100, .inl (fun _ => 0))), (qo38, .inr (2, [.ref q1_42, .ref q2_42, .int (nI 0)])), (q1_42, .inl (k1_42, 100, .inl (fun _ => 0))), (q2_42, .inl (k2_42, 100, .inl (fun _ => 0)))] H := hP
  have hD : va_D A [(h0, .inr (3, [.ref qo5, .ref qo16, .ref qo27, .ref qo38])), (qo5, .inr (1, [.ref q_9, .int (nI 0)])), (q_9, .inl (k_9, 100, .inl (fun _ => 0))), (qo16, .inr (1, [.ref q_20, .int (nI 0)])), (q_20, .inl (k_20, 100, .inl (fun _ => 0))), (qo27, .inr (0, [.ref q_31, .int (nI 0)])), (q_31, .inl (k_31, 100, .inl (fun _ => 0))), (qo38, .inr (2, [.ref q1_42, .ref q2_42, .int (nI 0)])), (q1_42, .inl (k1_42, 100, .inl (fun _ => 0))), (q2_42, .inl (k2_42, 100, .inl (fun _ => 0)))] := hD
  subst hQ
  have hP9 := hP.sub (ws' := [(h0, .inr (3, [.ref qo5, .ref qo16, .ref qo27, .ref qo38])), (qo5, .inr (1, [.ref q_9, .int (nI 0)])), (q_9, .inl (k_9, 100, .inl (fun _ => 0))), (qo16, .inr (1, [.ref q_20, .int (nI 0)])), (q_20, .inl (k_20, 100, .inl (fun _ => 0))), (qo27, .inr (0, [.ref q_31, .int (nI 0)])), (q_31, .inl (k_31, 100, .inl (fun _ => 0))), (qo38, .inr (2, [.ref q1_42, .ref q2_42, .int (nI 0)])), (q1_42, .inl (k1_42, 100, .inl (fun _ => 0))), (q2_42, .inl (k2_42, 100, .inl (fun _ => 0)))]) [0, 1, 2, 3, 4, 5, 6, 7, 8, 9] rfl
  have hD9 := hD.sub (ws' := [(h0, .inr (3, [.ref qo5, .ref qo16, .ref qo27, .ref qo38])), (qo5, .inr (1, [.ref q_9, .int (nI 0)])), (q_9, .inl (k_9, 100, .inl (fun _ => 0))), (qo16, .inr (1, [.ref q_20, .int (nI 0)])), (q_20, .inl (k_20, 100, .inl (fun _ => 0))), (qo27, .inr (0, [.ref q_31, .int (nI 0)])), (q_31, .inl (k_31, 100, .inl (fun _ => 0))), (qo38, .inr (2, [.ref q1_42, .ref q2_42, .int (nI 0)])), (q1_42, .inl (k1_42, 100, .inl (fun _ => 0))), (q2_42, .inl (k2_42, 100, .inl (fun _ => 0)))]) [0, 1, 2, 3, 4, 5, 6, 7, 8, 9] (by decide) rfl
  have hK9 := hK.sub (tys' := [(k_9, .int), (k_20, .int), (k_31, .int), (k1_42, .int), (k2_42, .int)]) [0, 1, 2, 3, 4] rfl
  refine W.widen (k := 9) (n := 509) (by omega) (by omega) ?_
  exact W.vret hx hb hr (fun t ht hW => ⟨⟨(), rfl, trivial, qo5, qo16, qo27, qo38, q_9, q_20, q_31, q1_42, q2_42, k_9, k_20, k_31, k1_42, k2_42, by rw [ht]; exact hP9, va_K.moved hW.alike hK9, hD9⟩, hS.F ht⟩) hS.2.2 dX3_init_48

