abbrev rm_c_Row_at : Room := { frames := 0, cells := 0, slots := 0, locals := 0 }
set_option maxHeartbeats 4000000 in
set_option maxRecDepth 100000 in
theorem c_Row_at (l : Launch) (dC : Nat → ClassId) (dI : Nat → Nat → Nat) (h0 q : Nat) (k : ClassId) (f : Nat → Int32) (n : Nat) (hn : n ≤ 100) (i : Int32) : Met l yX1_at (.code yX1_at cX1_at 2 (some (.int)) :: wsA) rm_c_Row_at (va_Pc [.ref h0, .int (i)] (ro (dC, dI) [(h0, .inr (1, [.ref q, .int (nI n)])), (q, .inl (k, 100, .inl f))] [(k, .int)])) (vp_Si (fun r => r = ra f n i)) 0 0 (fun _ => False) := by
  refine Met.ofW (cc := cX1_at) (maxL := 2) (ret := (some (.int))) (by decide) rfl ?_
  intro p e s m args below meth c s₁ B hml hv
  obtain ⟨hargs, hN, hP, hK⟩ := hv
  have hx := B.exec
  have hb := B.bytes
  have hr := B.returns
  have hw : ∀ w ∈ wsA, w.before args s = true := fun w h => atoms_spec (ws := (.code yX1_at cX1_at 2 (some (.int)) :: wsA)) B.pre w (List.mem_cons_of_mem _ h)
  have hown : s.vm.findClass "GlobDesk$Row" = some m.cls := findClass_of_methodNamed B.named
  have hlocks := B.notSynchronized
  generalize hQ : MQ below _ args s _ _ _ = Q
  change W p l e rm_c_Row_at s m args below meth c s.heap [] 0 0 Q (entryFrame m args 2)
  have hl := lv_entry ([.ref h0, .int (i)]) (n := 2) (Nat.le_of_ble_eq_true rfl)
  rw [show entryFrame m args 2 = entryFrame m ([.ref h0, .int (i)] : List Value).toArray 2 from by rw [hargs], lg_entry_eq]
  generalize (lg_sl ([.ref h0, .int (i)]) ++ List.replicate (2 - (lg_sl ([.ref h0, .int (i)])).length) Slot.unset).toArray = ls at hl ⊢
  have hl : lv_has ls 2 [(0, .ref h0), (1, .int (i))] := hl
  refine lv_iload_n hx hb dX1_at_0 rfl (lv_at hl 1 rfl) ?_
  refine lv_if_lt (tgt := 21) hx hb dX1_at_1 (by decide) (fun c1_0 => ?_) (fun c1_0 => ?_)
  · skip
    have hc0 := c1_0
    refine lv_iconst (v := -1) hx hb dX1_at_21 (by decide) ?_
    subst hQ
    exact W.iret (v := (-1)) hx hb hr (fun t ht hW => ⟨_, rfl, Eq.symm (by first | exact ra_neg hc0 | exact ra_big hc hn), ht⟩) (fun _ h => absurd h List.not_mem_nil) dX1_at_22
  · skip
    have hc0 := c1_0
    refine lv_iload_n hx hb dX1_at_4 rfl (lv_at hl 1 rfl) ?_
    refine lv_aload_n hx hb dX1_at_5 rfl (lv_at hl 0 rfl) ?_
    refine va_get (D := (dC, dI)) (ci := 1) (v := .int (nI n)) (C := RX1) (T := TX1) (N := 2) hx hb hw inX1 hown hK hP 0 rfl rfl 1 (by decide) (hw _ mw37) (fun _ h9 => h9) rfl dX1_at_6 ?_
    refine lv_icmp_ge (tgt := 21) hx hb dX1_at_9 (by decide) (fun c9_1 => ?_) (fun c9_1 => ?_)
    · skip
      have hc := c9_1
      refine lv_iconst (v := -1) hx hb dX1_at_21 (by decide) ?_
      subst hQ
      exact W.iret (v := (-1)) hx hb hr (fun t ht hW => ⟨_, rfl, Eq.symm (by first | exact ra_neg hc0 | exact ra_big hc hn), ht⟩) (fun _ h => absurd h List.not_mem_nil) dX1_at_22
    · skip
      have hc := c9_1
      refine lv_aload_n hx hb dX1_at_12 rfl (lv_at hl 0 rfl) ?_
      refine va_get (D := (dC, dI)) (ci := 1) (v := .ref q) (C := RX1) (T := TX1) (N := 2) hx hb hw inX1 hown hK hP 0 rfl rfl 0 (by decide) (hw _ mw36) (fun _ h9 => h9) rfl dX1_at_13 ?_
      refine lv_iload_n hx hb dX1_at_16 rfl (lv_at hl 1 rfl) ?_
      refine va_iald hx hb hK hP 1 0 rfl rfl (i := i) (ra_vp hc0 hc hn) dX1_at_17 ?_
      refine lv_goto (tgt := 22) hx hb dX1_at_18 (by decide) ?_
      subst hQ
      exact W.iret (v := (f (i).toNatClampNeg)) hx hb hr (fun t ht hW => ⟨_, rfl, ra_ok hc0 hc hn, ht⟩) (fun _ h => absurd h List.not_mem_nil) dX1_at_22

abbrev rm_c_Pat_at : Room := { frames := 0, cells := 0, slots := 0, locals := 0 }
set_option maxHeartbeats 4000000 in
set_option maxRecDepth 100000 in
theorem c_Pat_at (l : Launch) (dC : Nat → ClassId) (dI : Nat → Nat → Nat) (h0 q : Nat) (k : ClassId) (f : Nat → Int32) (n : Nat) (hn : n ≤ 100) (i : Int32) : Met l yX0_at (.code yX0_at cX0_at 2 (some (.int)) :: wsA) rm_c_Pat_at (va_Pc [.ref h0, .int (i)] (ro (dC, dI) [(h0, .inr (0, [.ref q, .int (nI n)])), (q, .inl (k, 100, .inl f))] [(k, .int)])) (vp_Si (fun r => r = ra f n i)) 0 0 (fun _ => False) := by
  refine Met.ofW (cc := cX0_at) (maxL := 2) (ret := (some (.int))) (by decide) rfl ?_
  intro p e s m args below meth c s₁ B hml hv
  obtain ⟨hargs, hN, hP, hK⟩ := hv
  have hx := B.exec
  have hb := B.bytes
  have hr := B.returns
  have hw : ∀ w ∈ wsA, w.before args s = true := fun w h => atoms_spec (ws := (.code yX0_at cX0_at 2 (some (.int)) :: wsA)) B.pre w (List.mem_cons_of_mem _ h)
  have hown : s.vm.findClass "GlobDesk$Pattern" = some m.cls := findClass_of_methodNamed B.named
  have hlocks := B.notSynchronized
  generalize hQ : MQ below _ args s _ _ _ = Q
  change W p l e rm_c_Pat_at s m args below meth c s.heap [] 0 0 Q (entryFrame m args 2)
  have hl := lv_entry ([.ref h0, .int (i)]) (n := 2) (Nat.le_of_ble_eq_true rfl)
  rw [show entryFrame m args 2 = entryFrame m ([.ref h0, .int (i)] : List Value).toArray 2 from by rw [hargs], lg_entry_eq]
  generalize (lg_sl ([.ref h0, .int (i)]) ++ List.replicate (2 - (lg_sl ([.ref h0, .int (i)])).length) Slot.unset).toArray = ls at hl ⊢
  have hl : lv_has ls 2 [(0, .ref h0), (1, .int (i))] := hl
  refine lv_iload_n hx hb dX0_at_0 rfl (lv_at hl 1 rfl) ?_
  refine lv_if_lt (tgt := 21) hx hb dX0_at_1 (by decide) (fun c1_0 => ?_) (fun c1_0 => ?_)
  · skip
    have hc0 := c1_0
    refine lv_iconst (v := -1) hx hb dX0_at_21 (by decide) ?_
    subst hQ
    exact W.iret (v := (-1)) hx hb hr (fun t ht hW => ⟨_, rfl, Eq.symm (by first | exact ra_neg hc0 | exact ra_big hc hn), ht⟩) (fun _ h => absurd h List.not_mem_nil) dX0_at_22
  · skip
    have hc0 := c1_0
    refine lv_iload_n hx hb dX0_at_4 rfl (lv_at hl 1 rfl) ?_
    refine lv_aload_n hx hb dX0_at_5 rfl (lv_at hl 0 rfl) ?_
    refine va_get (D := (dC, dI)) (ci := 0) (v := .int (nI n)) (C := RX0) (T := TX0) (N := 2) hx hb hw inX0 hown hK hP 0 rfl rfl 1 (by decide) (hw _ mw53) (fun _ h9 => h9) rfl dX0_at_6 ?_
    refine lv_icmp_ge (tgt := 21) hx hb dX0_at_9 (by decide) (fun c9_1 => ?_) (fun c9_1 => ?_)
    · skip
      have hc := c9_1
      refine lv_iconst (v := -1) hx hb dX0_at_21 (by decide) ?_
      subst hQ
      exact W.iret (v := (-1)) hx hb hr (fun t ht hW => ⟨_, rfl, Eq.symm (by first | exact ra_neg hc0 | exact ra_big hc hn), ht⟩) (fun _ h => absurd h List.not_mem_nil) dX0_at_22
    · skip
      have hc := c9_1
      refine lv_aload_n hx hb dX0_at_12 rfl (lv_at hl 0 rfl) ?_
      refine va_get (D := (dC, dI)) (ci := 0) (v := .ref q) (C := RX0) (T := TX0) (N := 2) hx hb hw inX0 hown hK hP 0 rfl rfl 0 (by decide) (hw _ mw52) (fun _ h9 => h9) rfl dX0_at_13 ?_
      refine lv_iload_n hx hb dX0_at_16 rfl (lv_at hl 1 rfl) ?_
      refine va_iald hx hb hK hP 1 0 rfl rfl (i := i) (ra_vp hc0 hc hn) dX0_at_17 ?_
      refine lv_goto (tgt := 22) hx hb dX0_at_18 (by decide) ?_
      subst hQ
      exact W.iret (v := (f (i).toNatClampNeg)) hx hb hr (fun t ht hW => ⟨_, rfl, ra_ok hc0 hc hn, ht⟩) (fun _ h => absurd h List.not_mem_nil) dX0_at_22
