def B_X4_init (D : va_G) (A : Nat → Prop) (h0 : Nat) (_ : Unit) (t : State) : Prop := ∃ (mv mk ms ml mc mf mn : Nat) (jv jk js jl jc jf jn : ClassId), va_P D cl5 [(h0, .inr (4, [.int (nI 0), .ref mv, .ref mk, .int (nI 0), .int (nI 0), .int (nI 0), .ref ms, .ref ml, .ref mc, .int (nI 0), .ref mf, .ref mn])), (mv, .inl (jv, 100, .inl (fun _ => 0))), (mk, .inl (jk, 100, .inl (fun _ => 0))), (ms, .inl (js, 100, .inl (fun _ => 0))), (ml, .inl (jl, 100, .inl (fun _ => 0))), (mc, .inl (jc, 10201, .inl (fun _ => 0))), (mf, .inl (jf, 100, .inl (fun _ => 0))), (mn, .inl (jn, 100, .inl (fun _ => 0)))] t.heap ∧ va_K D cl5 [(jv, .int), (jk, .int), (js, .int), (jl, .int), (jc, .boolean), (jf, .int), (jn, .int)] t ∧ va_D A [(h0, .inr (4, [.int (nI 0), .ref mv, .ref mk, .int (nI 0), .int (nI 0), .int (nI 0), .ref ms, .ref ml, .ref mc, .int (nI 0), .ref mf, .ref mn])), (mv, .inl (jv, 100, .inl (fun _ => 0))), (mk, .inl (jk, 100, .inl (fun _ => 0))), (ms, .inl (js, 100, .inl (fun _ => 0))), (ml, .inl (jl, 100, .inl (fun _ => 0))), (mc, .inl (jc, 10201, .inl (fun _ => 0))), (mf, .inl (jf, 100, .inl (fun _ => 0))), (mn, .inl (jn, 100, .inl (fun _ => 0)))]
abbrev rm_c_X4_init : Room := { frames := 1, cells := 7, slots := 10801, locals := 12 }
set_option maxHeartbeats 4000000 in
set_option maxRecDepth 100000 in
theorem c_X4_init (l : Launch) (dC : Nat → ClassId) (dI : Nat → Nat → Nat) (sz : Nat) (h0 : Nat) : Met l yX4_init (.code yX4_init cX4_init 1 none :: wsA) rm_c_X4_init (va_Pc [.ref h0] (wr (dC, dI) [(h0, .inr (4, [.int (0), .null, .null, .int (0), .int (0), .int (0), .null, .null, .null, .int (0), .null, .null]))] [] sz)) (va_Qv (fun _ : Unit => True) (B_X4_init (dC, dI) (va_A [(h0, .inr (4, [.int (0), .null, .null, .int (0), .int (0), .int (0), .null, .null, .null, .int (0), .null, .null]))] sz) h0) (va_A [(h0, .inr (4, [.int (0), .null, .null, .int (0), .int (0), .int (0), .null, .null, .null, .int (0), .null, .null]))] sz)) 7 10801 (va_A [(h0, .inr (4, [.int (0), .null, .null, .int (0), .int (0), .int (0), .null, .null, .null, .int (0), .null, .null]))] sz) := by
  refine Met.ofW (cc := cX4_init) (maxL := 1) (ret := none) (by decide) rfl ?_
  intro p e s m args below meth c s₁ B hml hv
  obtain ⟨hargs, hsz, hN, hP, hK, hD0⟩ := hv
  have hx := B.exec
  have hb := B.bytes
  have hr := B.returns
  have hw : ∀ w ∈ wsA, w.before args s = true := fun w h => atoms_spec (ws := (.code yX4_init cX4_init 1 none :: wsA)) B.pre w (List.mem_cons_of_mem _ h)
  have hown : s.vm.findClass "GlobDeskModel" = some m.cls := findClass_of_methodNamed B.named
  have hlocks := B.notSynchronized
  have hin : meth.name = "<init>" := (name_of_methodNamed B.named B.method).1
  subst hsz
  have hD := hD0.self (sz := s.heap.size)
  generalize hAe : va_A [(h0, .inr (4, [.int (0), .null, .null, .int (0), .int (0), .int (0), .null, .null, .null, .int (0), .null, .null]))] s.heap.size = A at hD ⊢
  have hA : ∀ q : Nat, s.heap.size ≤ q → A q := fun q h => by rw [← hAe]; exact Or.inr h
  have hS : va_S A s.heap s.heap [] := va_S.rf
  generalize hQ : MQ below _ args s _ _ _ = Q
  change W p l e rm_c_X4_init s m args below meth c s.heap [] 0 0 Q (entryFrame m args 1)
  have hl := lv_entry ([.ref h0]) (n := 1) (Nat.le_of_ble_eq_true rfl)
  rw [show entryFrame m args 1 = entryFrame m ([.ref h0] : List Value).toArray 1 from by rw [hargs], lg_entry_eq]
  generalize (lg_sl ([.ref h0]) ++ List.replicate (1 - (lg_sl ([.ref h0])).length) Slot.unset).toArray = ls at hl ⊢
  have hl : lv_has ls 1 [(0, .ref h0)] := hl
  refine lv_aload_n hx hb dX4_init_0 rfl (lv_at hl 0 rfl) ?_
  refine W.objInit hx hb hown (hw _ mw243) (hw _ mw28) (hw _ mw29) rfl (by rw [hml]; exact hl.1) rfl dX4_init_1 (Nat.le_of_ble_eq_true rfl) (Nat.le_of_ble_eq_true rfl) ?_
  refine W.eq (g2 := F0 m 4 ls []) rfl ?_
  refine lv_aload_n hx hb dX4_init_4 rfl (lv_at hl 0 rfl) ?_
  refine lv_iconst (v := 0) hx hb dX4_init_5 (by decide) ?_
  refine lv_topi (fun x1 ex1 => ?_)
  obtain rfl : x1 = nI 0 := by rw [ex1]; exact nI_0.symm
  refine va_put (D := (dC, dI)) (ci := 4) (v := .int (nI 0)) (ty := .int) (C := RX4) (T := TX4) (N := 12) hx hb hw inX4 tyX4 tyX4_ok nmX4 hown hK hP hD hS 0 rfl rfl 0 (by decide) (hw _ mw244) (fun _ h9 => h9) rfl (by decide +kernel) rfl rfl (Nat.le_of_ble_eq_true rfl) dX4_init_6 (fun H locs hP hD hS => ?_)
  have hP : va_P (dC, dI) cl5 [(h0, .inr (4, [.int (nI 0), .null, .null, .int (0), .int (0), .int (0), .null, .null, .null, .int (0), .null, .null]))] H := hP
  have hD : va_D A [(h0, .inr (4, [.int (nI 0), .null, .null, .int (0), .int (0), .int (0), .null, .null, .null, .int (0), .null, .null]))] := hD
  refine lv_aload_n hx hb dX4_init_9 rfl (lv_at hl 0 rfl) ?_
  refine lv_bipush (v := 100) hx hb dX4_init_10 (by decide) ?_
  refine va_newa (atype := .int) (ty := .int) (a0 := (100, .inl (fun _ => 0))) (N' := 100) hx hb (hw _ mw45) rfl hK hP hD hS hA (fun _ => rfl) (by decide) (by decide) (Nat.le_of_ble_eq_true rfl) (Nat.le_of_ble_eq_true rfl) (Nat.le_of_ble_eq_true rfl) dX4_init_12 (fun qa12 ka12 H hK hP hD hS => ?_)
  have hK : va_K (dC, dI) cl5 [(ka12, .int)] s := hK
  have hP : va_P (dC, dI) cl5 [(h0, .inr (4, [.int (nI 0), .null, .null, .int (0), .int (0), .int (0), .null, .null, .null, .int (0), .null, .null])), (qa12, .inl (ka12, 100, .inl (fun _ => 0)))] H := hP
  have hD : va_D A [(h0, .inr (4, [.int (nI 0), .null, .null, .int (0), .int (0), .int (0), .null, .null, .null, .int (0), .null, .null])), (qa12, .inl (ka12, 100, .inl (fun _ => 0)))] := hD
  refine W.widen (k := 1) (n := 100) (by omega) (by omega) ?_
  refine va_putF (D := (dC, dI)) (ci := 4) (v := .ref qa12) (ty := .array .int) (C := RX4) (T := TX4) (N := 12) hx hb hw inX4 tyX4 tyX4_ok nmX4 hown hK hP hD hS 0 rfl rfl 1 (by decide) (hw _ mw245) (fun _ h9 => h9) rfl hin rfl (by decide +kernel) rfl rfl (Nat.le_of_ble_eq_true rfl) dX4_init_14 (fun H locs hP hD hS => ?_)
  have hP : va_P (dC, dI) cl5 [(h0, .inr (4, [.int (nI 0), .ref qa12, .null, .int (0), .int (0), .int (0), .null, .null, .null, .int (0), .null, .null])), (qa12, .inl (ka12, 100, .inl (fun _ => 0)))] H := hP
  have hD : va_D A [(h0, .inr (4, [.int (nI 0), .ref qa12, .null, .int (0), .int (0), .int (0), .null, .null, .null, .int (0), .null, .null])), (qa12, .inl (ka12, 100, .inl (fun _ => 0)))] := hD
  refine lv_aload_n hx hb dX4_init_17 rfl (lv_at hl 0 rfl) ?_
  refine lv_bipush (v := 100) hx hb dX4_init_18 (by decide) ?_
  refine va_newa (atype := .int) (ty := .int) (a0 := (100, .inl (fun _ => 0))) (N' := 100) hx hb (hw _ mw45) rfl hK hP hD hS hA (fun _ => rfl) (by decide) (by decide) (Nat.le_of_ble_eq_true rfl) (Nat.le_of_ble_eq_true rfl) (Nat.le_of_ble_eq_true rfl) dX4_init_20 (fun qa20 ka20 H hK hP hD hS => ?_)
  have hK : va_K (dC, dI) cl5 [(ka12, .int), (ka20, .int)] s := hK
  have hP : va_P (dC, dI) cl5 [(h0, .inr (4, [.int (nI 0), .ref qa12, .null, .int (0), .int (0), .int (0), .null, .null, .null, .int (0), .null, .null])), (qa12, .inl (ka12, 100, .inl (fun _ => 0))), (qa20, .inl (ka20, 100, .inl (fun _ => 0)))] H := hP
  have hD : va_D A [(h0, .inr (4, [.int (nI 0), .ref qa12, .null, .int (0), .int (0), .int (0), .null, .null, .null, .int (0), .null, .null])), (qa12, .inl (ka12, 100, .inl (fun _ => 0))), (qa20, .inl (ka20, 100, .inl (fun _ => 0)))] := hD
  refine W.widen (k := 2) (n := 200) (by omega) (by omega) ?_
  refine va_putF (D := (dC, dI)) (ci := 4) (v := .ref qa20) (ty := .array .int) (C := RX4) (T := TX4) (N := 12) hx hb hw inX4 tyX4 tyX4_ok nmX4 hown hK hP hD hS 0 rfl rfl 2 (by decide) (hw _ mw246) (fun _ h9 => h9) rfl hin rfl (by decide +kernel) rfl rfl (Nat.le_of_ble_eq_true rfl) dX4_init_22 (fun H locs hP hD hS => ?_)
  have hP : va_P (dC, dI) cl5 [(h0, .inr (4, [.int (nI 0), .ref qa12, .ref qa20, .int (0), .int (0), .int (0), .null, .null, .null, .int (0), .null, .null])), (qa12, .inl (ka12, 100, .inl (fun _ => 0))), (qa20, .inl (ka20, 100, .inl (fun _ => 0)))] H := hP
  have hD : va_D A [(h0, .inr (4, [.int (nI 0), .ref qa12, .ref qa20, .int (0), .int (0), .int (0), .null, .null, .null, .int (0), .null, .null])), (qa12, .inl (ka12, 100, .inl (fun _ => 0))), (qa20, .inl (ka20, 100, .inl (fun _ => 0)))] := hD
  refine lv_aload_n hx hb dX4_init_25 rfl (lv_at hl 0 rfl) ?_
  refine lv_iconst (v := 0) hx hb dX4_init_26 (by decide) ?_
  refine lv_topi (fun x2 ex2 => ?_)
  obtain rfl : x2 = nI 0 := by rw [ex2]; exact nI_0.symm
  refine va_put (D := (dC, dI)) (ci := 4) (v := .int (nI 0)) (ty := .int) (C := RX4) (T := TX4) (N := 12) hx hb hw inX4 tyX4 tyX4_ok nmX4 hown hK hP hD hS 0 rfl rfl 3 (by decide) (hw _ mw247) (fun _ h9 => h9) rfl (by decide +kernel) rfl rfl (Nat.le_of_ble_eq_true rfl) dX4_init_27 (fun H locs hP hD hS => ?_)
  have hP : va_P (dC, dI) cl5 [(h0, .inr (4, [.int (nI 0), .ref qa12, .ref qa20, .int (nI 0), .int (0), .int (0), .null, .null, .null, .int (0), .null, .null])), (qa12, .inl (ka12, 100, .inl (fun _ => 0))), (qa20, .inl (ka20, 100, .inl (fun _ => 0)))] H := hP
  have hD : va_D A [(h0, .inr (4, [.int (nI 0), .ref qa12, .ref qa20, .int (nI 0), .int (0), .int (0), .null, .null, .null, .int (0), .null, .null])), (qa12, .inl (ka12, 100, .inl (fun _ => 0))), (qa20, .inl (ka20, 100, .inl (fun _ => 0)))] := hD
  refine lv_aload_n hx hb dX4_init_30 rfl (lv_at hl 0 rfl) ?_
  refine lv_iconst (v := 0) hx hb dX4_init_31 (by decide) ?_
  refine lv_topi (fun x3 ex3 => ?_)
  obtain rfl : x3 = nI 0 := by rw [ex3]; exact nI_0.symm
  refine va_put (D := (dC, dI)) (ci := 4) (v := .int (nI 0)) (ty := .int) (C := RX4) (T := TX4) (N := 12) hx hb hw inX4 tyX4 tyX4_ok nmX4 hown hK hP hD hS 0 rfl rfl 4 (by decide) (hw _ mw248) (fun _ h9 => h9) rfl (by decide +kernel) rfl rfl (Nat.le_of_ble_eq_true rfl) dX4_init_32 (fun H locs hP hD hS => ?_)
  have hP : va_P (dC, dI) cl5 [(h0, .inr (4, [.int (nI 0), .ref qa12, .ref qa20, .int (nI 0), .int (nI 0), .int (0), .null, .null, .null, .int (0), .null, .null])), (qa12, .inl (ka12, 100, .inl (fun _ => 0))), (qa20, .inl (ka20, 100, .inl (fun _ => 0)))] H := hP
  have hD : va_D A [(h0, .inr (4, [.int (nI 0), .ref qa12, .ref qa20, .int (nI 0), .int (nI 0), .int (0), .null, .null, .null, .int (0), .null, .null])), (qa12, .inl (ka12, 100, .inl (fun _ => 0))), (qa20, .inl (ka20, 100, .inl (fun _ => 0)))] := hD
  refine lv_aload_n hx hb dX4_init_35 rfl (lv_at hl 0 rfl) ?_
  refine lv_iconst (v := 0) hx hb dX4_init_36 (by decide) ?_
  refine lv_topi (fun x4 ex4 => ?_)
  obtain rfl : x4 = nI 0 := by rw [ex4]; exact nI_0.symm
  refine va_put (D := (dC, dI)) (ci := 4) (v := .int (nI 0)) (ty := .int) (C := RX4) (T := TX4) (N := 12) hx hb hw inX4 tyX4 tyX4_ok nmX4 hown hK hP hD hS 0 rfl rfl 5 (by decide) (hw _ mw249) (fun _ h9 => h9) rfl (by decide +kernel) rfl rfl (Nat.le_of_ble_eq_true rfl) dX4_init_37 (fun H locs hP hD hS => ?_)
  have hP : va_P (dC, dI) cl5 [(h0, .inr (4, [.int (nI 0), .ref qa12, .ref qa20, .int (nI 0), .int (nI 0), .int (nI 0), .null, .null, .null, .int (0), .null, .null])), (qa12, .inl (ka12, 100, .inl (fun _ => 0))), (qa20, .inl (ka20, 100, .inl (fun _ => 0)))] H := hP
  have hD : va_D A [(h0, .inr (4, [.int (nI 0), .ref qa12, .ref qa20, .int (nI 0), .int (nI 0), .int (nI 0), .null, .null, .null, .int (0), .null, .null])), (qa12, .inl (ka12, 100, .inl (fun _ => 0))), (qa20, .inl (ka20, 100, .inl (fun _ => 0)))] := hD
  refine lv_aload_n hx hb dX4_init_40 rfl (lv_at hl 0 rfl) ?_
  refine lv_bipush (v := 100) hx hb dX4_init_41 (by decide) ?_
  refine va_newa (atype := .int) (ty := .int) (a0 := (100, .inl (fun _ => 0))) (N' := 100) hx hb (hw _ mw45) rfl hK hP hD hS hA (fun _ => rfl) (by decide) (by decide) (Nat.le_of_ble_eq_true rfl) (Nat.le_of_ble_eq_true rfl) (Nat.le_of_ble_eq_true rfl) dX4_init_43 (fun qa43 ka43 H hK hP hD hS => ?_)
  have hK : va_K (dC, dI) cl5 [(ka12, .int), (ka20, .int), (ka43, .int)] s := hK
  have hP : va_P (dC, dI) cl5 [(h0, .inr (4, [.int (nI 0), .ref qa12, .ref qa20, .int (nI 0), .int (nI 0), .int (nI 0), .null, .null, .null, .int (0), .null, .null])), (qa12, .inl (ka12, 100, .inl (fun _ => 0))), (qa20, .inl (ka20, 100, .inl (fun _ => 0))), (qa43, .inl (ka43, 100, .inl (fun _ => 0)))] H := hP
  have hD : va_D A [(h0, .inr (4, [.int (nI 0), .ref qa12, .ref qa20, .int (nI 0), .int (nI 0), .int (nI 0), .null, .null, .null, .int (0), .null, .null])), (qa12, .inl (ka12, 100, .inl (fun _ => 0))), (qa20, .inl (ka20, 100, .inl (fun _ => 0))), (qa43, .inl (ka43, 100, .inl (fun _ => 0)))] := hD
  refine W.widen (k := 3) (n := 300) (by omega) (by omega) ?_
  refine va_putF (D := (dC, dI)) (ci := 4) (v := .ref qa43) (ty := .array .int) (C := RX4) (T := TX4) (N := 12) hx hb hw inX4 tyX4 tyX4_ok nmX4 hown hK hP hD hS 0 rfl rfl 6 (by decide) (hw _ mw250) (fun _ h9 => h9) rfl hin rfl (by decide +kernel) rfl rfl (Nat.le_of_ble_eq_true rfl) dX4_init_45 (fun H locs hP hD hS => ?_)
  have hP : va_P (dC, dI) cl5 [(h0, .inr (4, [.int (nI 0), .ref qa12, .ref qa20, .int (nI 0), .int (nI 0), .int (nI 0), .ref qa43, .null, .null, .int (0), .null, .null])), (qa12, .inl (ka12, 100, .inl (fun _ => 0))), (qa20, .inl (ka20, 100, .inl (fun _ => 0))), (qa43, .inl (ka43, 100, .inl (fun _ => 0)))] H := hP
  have hD : va_D A [(h0, .inr (4, [.int (nI 0), .ref qa12, .ref qa20, .int (nI 0), .int (nI 0), .int (nI 0), .ref qa43, .null, .null, .int (0), .null, .null])), (qa12, .inl (ka12, 100, .inl (fun _ => 0))), (qa20, .inl (ka20, 100, .inl (fun _ => 0))), (qa43, .inl (ka43, 100, .inl (fun _ => 0)))] := hD
  refine lv_aload_n hx hb dX4_init_48 rfl (lv_at hl 0 rfl) ?_
  refine lv_bipush (v := 100) hx hb dX4_init_49 (by decide) ?_
  refine va_newa (atype := .int) (ty := .int) (a0 := (100, .inl (fun _ => 0))) (N' := 100) hx hb (hw _ mw45) rfl hK hP hD hS hA (fun _ => rfl) (by decide) (by decide) (Nat.le_of_ble_eq_true rfl) (Nat.le_of_ble_eq_true rfl) (Nat.le_of_ble_eq_true rfl) dX4_init_51 (fun qa51 ka51 H hK hP hD hS => ?_)
  have hK : va_K (dC, dI) cl5 [(ka12, .int), (ka20, .int), (ka43, .int), (ka51, .int)] s := hK
  have hP : va_P (dC, dI) cl5 [(h0, .inr (4, [.int (nI 0), .ref qa12, .ref qa20, .int (nI 0), .int (nI 0), .int (nI 0), .ref qa43, .null, .null, .int (0), .null, .null])), (qa12, .inl (ka12, 100, .inl (fun _ => 0))), (qa20, .inl (ka20, 100, .inl (fun _ => 0))), (qa43, .inl (ka43, 100, .inl (fun _ => 0))), (qa51, .inl (ka51, 100, .inl (fun _ => 0)))] H := hP
  have hD : va_D A [(h0, .inr (4, [.int (nI 0), .ref qa12, .ref qa20, .int (nI 0), .int (nI 0), .int (nI 0), .ref qa43, .null, .null, .int (0), .null, .null])), (qa12, .inl (ka12, 100, .inl (fun _ => 0))), (qa20, .inl (ka20, 100, .inl (fun _ => 0))), (qa43, .inl (ka43, 100, .inl (fun _ => 0))), (qa51, .inl (ka51, 100, .inl (fun _ => 0)))] := hD
  refine W.widen (k := 4) (n := 400) (by omega) (by omega) ?_
  refine va_putF (D := (dC, dI)) (ci := 4) (v := .ref qa51) (ty := .array .int) (C := RX4) (T := TX4) (N := 12) hx hb hw inX4 tyX4 tyX4_ok nmX4 hown hK hP hD hS 0 rfl rfl 7 (by decide) (hw _ mw251) (fun _ h9 => h9) rfl hin rfl (by decide +kernel) rfl rfl (Nat.le_of_ble_eq_true rfl) dX4_init_53 (fun H locs hP hD hS => ?_)
  have hP : va_P (dC, dI) cl5 [(h0, .inr (4, [.int (nI 0), .ref qa12, .ref qa20, .int (nI 0), .int (nI 0), .int (nI 0), .ref qa43, .ref qa51, .null, .int (0), .null, .null])), (qa12, .inl (ka12, 100, .inl (fun _ => 0))), (qa20, .inl (ka20, 100, .inl (fun _ => 0))), (qa43, .inl (ka43, 100, .inl (fun _ => 0))), (qa51, .inl (ka51, 100, .inl (fun _ => 0)))] H := hP
  have hD : va_D A [(h0, .inr (4, [.int (nI 0), .ref qa12, .ref qa20, .int (nI 0), .int (nI 0), .int (nI 0), .ref qa43, .ref qa51, .null, .int (0), .null, .null])), (qa12, .inl (ka12, 100, .inl (fun _ => 0))), (qa20, .inl (ka20, 100, .inl (fun _ => 0))), (qa43, .inl (ka43, 100, .inl (fun _ => 0))), (qa51, .inl (ka51, 100, .inl (fun _ => 0)))] := hD
  refine lv_aload_n hx hb dX4_init_56 rfl (lv_at hl 0 rfl) ?_
  refine lv_sipush (v := 10201) hx hb dX4_init_57 (by decide) ?_
  refine va_newa (atype := .boolean) (ty := .boolean) (a0 := (10201, .inl (fun _ => 0))) (N' := 10201) hx hb (hw _ mw281) rfl hK hP hD hS hA (fun _ => rfl) (by decide) (by decide) (Nat.le_of_ble_eq_true rfl) (Nat.le_of_ble_eq_true rfl) (Nat.le_of_ble_eq_true rfl) dX4_init_60 (fun qa60 ka60 H hK hP hD hS => ?_)
  have hK : va_K (dC, dI) cl5 [(ka12, .int), (ka20, .int), (ka43, .int), (ka51, .int), (ka60, .boolean)] s := hK
  have hP : va_P (dC, dI) cl5 [(h0, .inr (4, [.int (nI 0), .ref qa12, .ref qa20, .int (nI 0), .int (nI 0), .int (nI 0), .ref qa43, .ref qa51, .null, .int (0), .null, .null])), (qa12, .inl (ka12, 100, .inl (fun _ => 0))), (qa20, .inl (ka20, 100, .inl (fun _ => 0))), (qa43, .inl (ka43, 100, .inl (fun _ => 0))), (qa51, .inl (ka51, 100, .inl (fun _ => 0))), (qa60, .inl (ka60, 10201, .inl (fun _ => 0)))] H := hP
  have hD : va_D A [(h0, .inr (4, [.int (nI 0), .ref qa12, .ref qa20, .int (nI 0), .int (nI 0), .int (nI 0), .ref qa43, .ref qa51, .null, .int (0), .null, .null])), (qa12, .inl (ka12, 100, .inl (fun _ => 0))), (qa20, .inl (ka20, 100, .inl (fun _ => 0))), (qa43, .inl (ka43, 100, .inl (fun _ => 0))), (qa51, .inl (ka51, 100, .inl (fun _ => 0))), (qa60, .inl (ka60, 10201, .inl (fun _ => 0)))] := hD
  refine W.widen (k := 5) (n := 10601) (by omega) (by omega) ?_
  refine va_putF (D := (dC, dI)) (ci := 4) (v := .ref qa60) (ty := .array .boolean) (C := RX4) (T := TX4) (N := 12) hx hb hw inX4 tyX4 tyX4_ok nmX4 hown hK hP hD hS 0 rfl rfl 8 (by decide) (hw _ mw252) (fun _ h9 => h9) rfl hin rfl (by decide +kernel) rfl rfl (Nat.le_of_ble_eq_true rfl) dX4_init_62 (fun H locs hP hD hS => ?_)
  have hP : va_P (dC, dI) cl5 [(h0, .inr (4, [.int (nI 0), .ref qa12, .ref qa20, .int (nI 0), .int (nI 0), .int (nI 0), .ref qa43, .ref qa51, .ref qa60, .int (0), .null, .null])), (qa12, .inl (ka12, 100, .inl (fun _ => 0))), (qa20, .inl (ka20, 100, .inl (fun _ => 0))), (qa43, .inl (ka43, 100, .inl (fun _ => 0))), (qa51, .inl (ka51, 100, .inl (fun _ => 0))), (qa60, .inl (ka60, 10201, .inl (fun _ => 0)))] H := hP
  have hD : va_D A [(h0, .inr (4, [.int (nI 0), .ref qa12, .ref qa20, .int (nI 0), .int (nI 0), .int (nI 0), .ref qa43, .ref qa51, .ref qa60, .int (0), .null, .null])), (qa12, .inl (ka12, 100, .inl (fun _ => 0))), (qa20, .inl (ka20, 100, .inl (fun _ => 0))), (qa43, .inl (ka43, 100, .inl (fun _ => 0))), (qa51, .inl (ka51, 100, .inl (fun _ => 0))), (qa60, .inl (ka60, 10201, .inl (fun _ => 0)))] := hD
  refine lv_aload_n hx hb dX4_init_65 rfl (lv_at hl 0 rfl) ?_
  refine lv_iconst (v := 0) hx hb dX4_init_66 (by decide) ?_
  refine lv_topi (fun x5 ex5 => ?_)
  obtain rfl : x5 = nI 0 := by rw [ex5]; exact nI_0.symm
  refine va_put (D := (dC, dI)) (ci := 4) (v := .int (nI 0)) (ty := .int) (C := RX4) (T := TX4) (N := 12) hx hb hw inX4 tyX4 tyX4_ok nmX4 hown hK hP hD hS 0 rfl rfl 9 (by decide) (hw _ mw253) (fun _ h9 => h9) rfl (by decide +kernel) rfl rfl (Nat.le_of_ble_eq_true rfl) dX4_init_67 (fun H locs hP hD hS => ?_)
  have hP : va_P (dC, dI) cl5 [(h0, .inr (4, [.int (nI 0), .ref qa12, .ref qa20, .int (nI 0), .int (nI 0), .int (nI 0), .ref qa43, .ref qa51, .ref qa60, .int (nI 0), .null, .null])), (qa12, .inl (ka12, 100, .inl (fun _ => 0))), (qa20, .inl (ka20, 100, .inl (fun _ => 0))), (qa43, .inl (ka43, 100, .inl (fun _ => 0))), (qa51, .inl (ka51, 100, .inl (fun _ => 0))), (qa60, .inl (ka60, 10201, .inl (fun _ => 0)))] H := hP
  have hD : va_D A [(h0, .inr (4, [.int (nI 0), .ref qa12, .ref qa20, .int (nI 0), .int (nI 0), .int (nI 0), .ref qa43, .ref qa51, .ref qa60, .int (nI 0), .null, .null])), (qa12, .inl (ka12, 100, .inl (fun _ => 0))), (qa20, .inl (ka20, 100, .inl (fun _ => 0))), (qa43, .inl (ka43, 100, .inl (fun _ => 0))), (qa51, .inl (ka51, 100, .inl (fun _ => 0))), (qa60, .inl (ka60, 10201, .inl (fun _ => 0)))] := hD
  refine lv_aload_n hx hb dX4_init_70 rfl (lv_at hl 0 rfl) ?_
  refine lv_bipush (v := 100) hx hb dX4_init_71 (by decide) ?_
  refine va_newa (atype := .int) (ty := .int) (a0 := (100, .inl (fun _ => 0))) (N' := 100) hx hb (hw _ mw45) rfl hK hP hD hS hA (fun _ => rfl) (by decide) (by decide) (Nat.le_of_ble_eq_true rfl) (Nat.le_of_ble_eq_true rfl) (Nat.le_of_ble_eq_true rfl) dX4_init_73 (fun qa73 ka73 H hK hP hD hS => ?_)
  have hK : va_K (dC, dI) cl5 [(ka12, .int), (ka20, .int), (ka43, .int), (ka51, .int), (ka60, .boolean), (ka73, .int)] s := hK
  have hP : va_P (dC, dI) cl5 [(h0, .inr (4, [.int (nI 0), .ref qa12, .ref qa20, .int (nI 0), .int (nI 0), .int (nI 0), .ref qa43, .ref qa51, .ref qa60, .int (nI 0), .null, .null])), (qa12, .inl (ka12, 100, .inl (fun _ => 0))), (qa20, .inl (ka20, 100, .inl (fun _ => 0))), (qa43, .inl (ka43, 100, .inl (fun _ => 0))), (qa51, .inl (ka51, 100, .inl (fun _ => 0))), (qa60, .inl (ka60, 10201, .inl (fun _ => 0))), (qa73, .inl (ka73, 100, .inl (fun _ => 0)))] H := hP
  have hD : va_D A [(h0, .inr (4, [.int (nI 0), .ref qa12, .ref qa20, .int (nI 0), .int (nI 0), .int (nI 0), .ref qa43, .ref qa51, .ref qa60, .int (nI 0), .null, .null])), (qa12, .inl (ka12, 100, .inl (fun _ => 0))), (qa20, .inl (ka20, 100, .inl (fun _ => 0))), (qa43, .inl (ka43, 100, .inl (fun _ => 0))), (qa51, .inl (ka51, 100, .inl (fun _ => 0))), (qa60, .inl (ka60, 10201, .inl (fun _ => 0))), (qa73, .inl (ka73, 100, .inl (fun _ => 0)))] := hD
  refine W.widen (k := 6) (n := 10701) (by omega) (by omega) ?_
  refine va_putF (D := (dC, dI)) (ci := 4) (v := .ref qa73) (ty := .array .int) (C := RX4) (T := TX4) (N := 12) hx hb hw inX4 tyX4 tyX4_ok nmX4 hown hK hP hD hS 0 rfl rfl 10 (by decide) (hw _ mw254) (fun _ h9 => h9) rfl hin rfl (by decide +kernel) rfl rfl (Nat.le_of_ble_eq_true rfl) dX4_init_75 (fun H locs hP hD hS => ?_)
  have hP : va_P (dC, dI) cl5 [(h0, .inr (4, [.int (nI 0), .ref qa12, .ref qa20, .int (nI 0), .int (nI 0), .int (nI 0), .ref qa43, .ref qa51, .ref qa60, .int (nI 0), .ref qa73, .null])), (qa12, .inl (ka12, 100, .inl (fun _ => 0))), (qa20, .inl (ka20, 100, .inl (fun _ => 0))), (qa43, .inl (ka43, 100, .inl (fun _ => 0))), (qa51, .inl (ka51, 100, .inl (fun _ => 0))), (qa60, .inl (ka60, 10201, .inl (fun _ => 0))), (qa73, .inl (ka73, 100, .inl (fun _ => 0)))] H := hP
  have hD : va_D A [(h0, .inr (4, [.int (nI 0), .ref qa12, .ref qa20, .int (nI 0), .int (nI 0), .int (nI 0), .ref qa43, .ref qa51, .ref qa60, .int (nI 0), .ref qa73, .null])), (qa12, .inl (ka12, 100, .inl (fun _ => 0))), (qa20, .inl (ka20, 100, .inl (fun _ => 0))), (qa43, .inl (ka43, 100, .inl (fun _ => 0))), (qa51, .inl (ka51, 100, .inl (fun _ => 0))), (qa60, .inl (ka60, 10201, .inl (fun _ => 0))), (qa73, .inl (ka73, 100, .inl (fun _ => 0)))] := hD
  refine lv_aload_n hx hb dX4_init_78 rfl (lv_at hl 0 rfl) ?_
  refine lv_bipush (v := 100) hx hb dX4_init_79 (by decide) ?_
  refine va_newa (atype := .int) (ty := .int) (a0 := (100, .inl (fun _ => 0))) (N' := 100) hx hb (hw _ mw45) rfl hK hP hD hS hA (fun _ => rfl) (by decide) (by decide) (Nat.le_of_ble_eq_true rfl) (Nat.le_of_ble_eq_true rfl) (Nat.le_of_ble_eq_true rfl) dX4_init_81 (fun qa81 ka81 H hK hP hD hS => ?_)
  have hK : va_K (dC, dI) cl5 [(ka12, .int), (ka20, .int), (ka43, .int), (ka51, .int), (ka60, .boolean), (ka73, .int), (ka81, .int)] s := hK
  have hP : va_P (dC, dI) cl5 [(h0, .inr (4, [.int (nI 0), .ref qa12, .ref qa20, .int (nI 0), .int (nI 0), .int (nI 0), .ref qa43, .ref qa51, .ref qa60, .int (nI 0), .ref qa73, .null])), (qa12, .inl (ka12, 100, .inl (fun _ => 0))), (qa20, .inl (ka20, 100, .inl (fun _ => 0))), (qa43, .inl (ka43, 100, .inl (fun _ => 0))), (qa51, .inl (ka51, 100, .inl (fun _ => 0))), (qa60, .inl (ka60, 10201, .inl (fun _ => 0))), (qa73, .inl (ka73, 100, .inl (fun _ => 0))), (qa81, .inl (ka81, 100, .inl (fun _ => 0)))] H := hP
  have hD : va_D A [(h0, .inr (4, [.int (nI 0), .ref qa12, .ref qa20, .int (nI 0), .int (nI 0), .int (nI 0), .ref qa43, .ref qa51, .ref qa60, .int (nI 0), .ref qa73, .null])), (qa12, .inl (ka12, 100, .inl (fun _ => 0))), (qa20, .inl (ka20, 100, .inl (fun _ => 0))), (qa43, .inl (ka43, 100, .inl (fun _ => 0))), (qa51, .inl (ka51, 100, .inl (fun _ => 0))), (qa60, .inl (ka60, 10201, .inl (fun _ => 0))), (qa73, .inl (ka73, 100, .inl (fun _ => 0))), (qa81, .inl (ka81, 100, .inl (fun _ => 0)))] := hD
  refine W.widen (k := 7) (n := 10801) (by omega) (by omega) ?_
  refine va_putF (D := (dC, dI)) (ci := 4) (v := .ref qa81) (ty := .array .int) (C := RX4) (T := TX4) (N := 12) hx hb hw inX4 tyX4 tyX4_ok nmX4 hown hK hP hD hS 0 rfl rfl 11 (by decide) (hw _ mw255) (fun _ h9 => h9) rfl hin rfl (by decide +kernel) rfl rfl (Nat.le_of_ble_eq_true rfl) dX4_init_83 (fun H locs hP hD hS => ?_)
  have hP : va_P (dC, dI) cl5 [(h0, .inr (4, [.int (nI 0), .ref qa12, .ref qa20, .int (nI 0), .int (nI 0), .int (nI 0), .ref qa43, .ref qa51, .ref qa60, .int (nI 0), .ref qa73, .ref qa81])), (qa12, .inl (ka12, 100, .inl (fun _ => 0))), (qa20, .inl (ka20, 100, .inl (fun _ => 0))), (qa43, .inl (ka43, 100, .inl (fun _ => 0))), (qa51, .inl (ka51, 100, .inl (fun _ => 0))), (qa60, .inl (ka60, 10201, .inl (fun _ => 0))), (qa73, .inl (ka73, 100, .inl (fun _ => 0))), (qa81, .inl (ka81, 100, .inl (fun _ => 0)))] H := hP
  have hD : va_D A [(h0, .inr (4, [.int (nI 0), .ref qa12, .ref qa20, .int (nI 0), .int (nI 0), .int (nI 0), .ref qa43, .ref qa51, .ref qa60, .int (nI 0), .ref qa73, .ref qa81])), (qa12, .inl (ka12, 100, .inl (fun _ => 0))), (qa20, .inl (ka20, 100, .inl (fun _ => 0))), (qa43, .inl (ka43, 100, .inl (fun _ => 0))), (qa51, .inl (ka51, 100, .inl (fun _ => 0))), (qa60, .inl (ka60, 10201, .inl (fun _ => 0))), (qa73, .inl (ka73, 100, .inl (fun _ => 0))), (qa81, .inl (ka81, 100, .inl (fun _ => 0)))] := hD
  subst hQ
  have hP9 := hP.sub (ws' := [(h0, .inr (4, [.int (nI 0), .ref qa12, .ref qa20, .int (nI 0), .int (nI 0), .int (nI 0), .ref qa43, .ref qa51, .ref qa60, .int (nI 0), .ref qa73, .ref qa81])), (qa12, .inl (ka12, 100, .inl (fun _ => 0))), (qa20, .inl (ka20, 100, .inl (fun _ => 0))), (qa43, .inl (ka43, 100, .inl (fun _ => 0))), (qa51, .inl (ka51, 100, .inl (fun _ => 0))), (qa60, .inl (ka60, 10201, .inl (fun _ => 0))), (qa73, .inl (ka73, 100, .inl (fun _ => 0))), (qa81, .inl (ka81, 100, .inl (fun _ => 0)))]) [0, 1, 2, 3, 4, 5, 6, 7] rfl
  have hD9 := hD.sub (ws' := [(h0, .inr (4, [.int (nI 0), .ref qa12, .ref qa20, .int (nI 0), .int (nI 0), .int (nI 0), .ref qa43, .ref qa51, .ref qa60, .int (nI 0), .ref qa73, .ref qa81])), (qa12, .inl (ka12, 100, .inl (fun _ => 0))), (qa20, .inl (ka20, 100, .inl (fun _ => 0))), (qa43, .inl (ka43, 100, .inl (fun _ => 0))), (qa51, .inl (ka51, 100, .inl (fun _ => 0))), (qa60, .inl (ka60, 10201, .inl (fun _ => 0))), (qa73, .inl (ka73, 100, .inl (fun _ => 0))), (qa81, .inl (ka81, 100, .inl (fun _ => 0)))]) [0, 1, 2, 3, 4, 5, 6, 7] (by decide) rfl
  have hK9 := hK.sub (tys' := [(ka12, .int), (ka20, .int), (ka43, .int), (ka51, .int), (ka60, .boolean), (ka73, .int), (ka81, .int)]) [0, 1, 2, 3, 4, 5, 6] rfl
  refine W.widen (k := 7) (n := 10801) (by omega) (by omega) ?_
  exact W.vret hx hb hr (fun t ht hW => ⟨⟨(), rfl, trivial, qa12, qa20, qa43, qa51, qa60, qa73, qa81, ka12, ka20, ka43, ka51, ka60, ka73, ka81, by rw [ht]; exact hP9, va_K.moved hW.alike hK9, hD9⟩, hS.F ht⟩) hS.2.2 dX4_init_86
