abbrev rm_c_Sp_begin : Room := { frames := 0, cells := 0, slots := 0, locals := 0 }
set_option maxHeartbeats 4000000 in
set_option maxRecDepth 100000 in
theorem c_Sp_begin (l : Launch) (dC : Nat → ClassId) (dI : Nat → Nat → Nat) (h0 q1 q2 : Nat) (k1 k2 : ClassId) (f g : Nat → Int32) (n : Nat) (hn : n ≤ 100) (i : Int32) : Met l yX2_beginOf (.code yX2_beginOf cX2_beginOf 2 (some (.int)) :: wsA) rm_c_Sp_begin (va_Pc [.ref h0, .int (i)] (ro (dC, dI) [(h0, .inr (2, [.ref q1, .ref q2, .int (nI n)])), (q1, .inl (k1, 100, .inl f)), (q2, .inl (k2, 100, .inl g))] [(k1, .int), (k2, .int)])) (vp_Si (fun r => r = ra f n i)) 0 0 (fun _ => False) := by
  refine Met.ofW (cc := cX2_beginOf) (maxL := 2) (ret := (some (.int))) (by decide) rfl ?_
  intro p e s m args below meth c s₁ B hml hv
  obtain ⟨hargs, hN, hP, hK⟩ := hv
  have hx := B.exec
  have hb := B.bytes
  have hr := B.returns
  have hw : ∀ w ∈ wsA, w.before args s = true := fun w h => atoms_spec (ws := (.code yX2_beginOf cX2_beginOf 2 (some (.int)) :: wsA)) B.pre w (List.mem_cons_of_mem _ h)
  have hown : s.vm.findClass "GlobDesk$Spans" = some m.cls := findClass_of_methodNamed B.named
  have hlocks := B.notSynchronized
  generalize hQ : MQ below _ args s _ _ _ = Q
  change W p l e rm_c_Sp_begin s m args below meth c s.heap [] 0 0 Q (entryFrame m args 2)
  have hl := lv_entry ([.ref h0, .int (i)]) (n := 2) (Nat.le_of_ble_eq_true rfl)
  rw [show entryFrame m args 2 = entryFrame m ([.ref h0, .int (i)] : List Value).toArray 2 from by rw [hargs], lg_entry_eq]
  generalize (lg_sl ([.ref h0, .int (i)]) ++ List.replicate (2 - (lg_sl ([.ref h0, .int (i)])).length) Slot.unset).toArray = ls at hl ⊢
  have hl : lv_has ls 2 [(0, .ref h0), (1, .int (i))] := hl
  refine lv_iload_n hx hb dX2_beginOf_0 rfl (lv_at hl 1 rfl) ?_
  refine lv_if_lt (tgt := 21) hx hb dX2_beginOf_1 (by decide) (fun c1_0 => ?_) (fun c1_0 => ?_)
  · skip
    have hc0 := c1_0
    refine lv_iconst (v := -1) hx hb dX2_beginOf_21 (by decide) ?_
    subst hQ
    exact W.iret (v := (-1)) hx hb hr (fun t ht hW => ⟨_, rfl, Eq.symm (by first | exact ra_neg hc0 | exact ra_big hc hn), ht⟩) (fun _ h => absurd h List.not_mem_nil) dX2_beginOf_22
  · skip
    have hc0 := c1_0
    refine lv_iload_n hx hb dX2_beginOf_4 rfl (lv_at hl 1 rfl) ?_
    refine lv_aload_n hx hb dX2_beginOf_5 rfl (lv_at hl 0 rfl) ?_
    refine va_get (D := (dC, dI)) (ci := 2) (v := .int (nI n)) (C := RX2) (T := TX2) (N := 3) hx hb hw inX2 hown hK hP 0 rfl rfl 2 (by decide) (hw _ mw68) (fun _ h9 => h9) rfl dX2_beginOf_6 ?_
    refine lv_icmp_ge (tgt := 21) hx hb dX2_beginOf_9 (by decide) (fun c9_1 => ?_) (fun c9_1 => ?_)
    · skip
      have hc := c9_1
      refine lv_iconst (v := -1) hx hb dX2_beginOf_21 (by decide) ?_
      subst hQ
      exact W.iret (v := (-1)) hx hb hr (fun t ht hW => ⟨_, rfl, Eq.symm (by first | exact ra_neg hc0 | exact ra_big hc hn), ht⟩) (fun _ h => absurd h List.not_mem_nil) dX2_beginOf_22
    · skip
      have hc := c9_1
      refine lv_aload_n hx hb dX2_beginOf_12 rfl (lv_at hl 0 rfl) ?_
      refine va_get (D := (dC, dI)) (ci := 2) (v := .ref q1) (C := RX2) (T := TX2) (N := 3) hx hb hw inX2 hown hK hP 0 rfl rfl 0 (by decide) (hw _ mw66) (fun _ h9 => h9) rfl dX2_beginOf_13 ?_
      refine lv_iload_n hx hb dX2_beginOf_16 rfl (lv_at hl 1 rfl) ?_
      refine va_iald hx hb hK hP 1 0 rfl rfl (i := i) (ra_vp hc0 hc hn) dX2_beginOf_17 ?_
      refine lv_goto (tgt := 22) hx hb dX2_beginOf_18 (by decide) ?_
      subst hQ
      exact W.iret (v := (f (i).toNatClampNeg)) hx hb hr (fun t ht hW => ⟨_, rfl, ra_ok hc0 hc hn, ht⟩) (fun _ h => absurd h List.not_mem_nil) dX2_beginOf_22

abbrev rm_c_Sp_length : Room := { frames := 0, cells := 0, slots := 0, locals := 0 }
set_option maxHeartbeats 4000000 in
set_option maxRecDepth 100000 in
theorem c_Sp_length (l : Launch) (dC : Nat → ClassId) (dI : Nat → Nat → Nat) (h0 q1 q2 : Nat) (k1 k2 : ClassId) (f g : Nat → Int32) (n : Nat) (hn : n ≤ 100) (i : Int32) : Met l yX2_lengthOf (.code yX2_lengthOf cX2_lengthOf 2 (some (.int)) :: wsA) rm_c_Sp_length (va_Pc [.ref h0, .int (i)] (ro (dC, dI) [(h0, .inr (2, [.ref q1, .ref q2, .int (nI n)])), (q1, .inl (k1, 100, .inl f)), (q2, .inl (k2, 100, .inl g))] [(k1, .int), (k2, .int)])) (vp_Si (fun r => r = ra g n i)) 0 0 (fun _ => False) := by
  refine Met.ofW (cc := cX2_lengthOf) (maxL := 2) (ret := (some (.int))) (by decide) rfl ?_
  intro p e s m args below meth c s₁ B hml hv
  obtain ⟨hargs, hN, hP, hK⟩ := hv
  have hx := B.exec
  have hb := B.bytes
  have hr := B.returns
  have hw : ∀ w ∈ wsA, w.before args s = true := fun w h => atoms_spec (ws := (.code yX2_lengthOf cX2_lengthOf 2 (some (.int)) :: wsA)) B.pre w (List.mem_cons_of_mem _ h)
  have hown : s.vm.findClass "GlobDesk$Spans" = some m.cls := findClass_of_methodNamed B.named
  have hlocks := B.notSynchronized
  generalize hQ : MQ below _ args s _ _ _ = Q
  change W p l e rm_c_Sp_length s m args below meth c s.heap [] 0 0 Q (entryFrame m args 2)
  have hl := lv_entry ([.ref h0, .int (i)]) (n := 2) (Nat.le_of_ble_eq_true rfl)
  rw [show entryFrame m args 2 = entryFrame m ([.ref h0, .int (i)] : List Value).toArray 2 from by rw [hargs], lg_entry_eq]
  generalize (lg_sl ([.ref h0, .int (i)]) ++ List.replicate (2 - (lg_sl ([.ref h0, .int (i)])).length) Slot.unset).toArray = ls at hl ⊢
  have hl : lv_has ls 2 [(0, .ref h0), (1, .int (i))] := hl
  refine lv_iload_n hx hb dX2_lengthOf_0 rfl (lv_at hl 1 rfl) ?_
  refine lv_if_lt (tgt := 21) hx hb dX2_lengthOf_1 (by decide) (fun c1_0 => ?_) (fun c1_0 => ?_)
  · skip
    have hc0 := c1_0
    refine lv_iconst (v := -1) hx hb dX2_lengthOf_21 (by decide) ?_
    subst hQ
    exact W.iret (v := (-1)) hx hb hr (fun t ht hW => ⟨_, rfl, Eq.symm (by first | exact ra_neg hc0 | exact ra_big hc hn), ht⟩) (fun _ h => absurd h List.not_mem_nil) dX2_lengthOf_22
  · skip
    have hc0 := c1_0
    refine lv_iload_n hx hb dX2_lengthOf_4 rfl (lv_at hl 1 rfl) ?_
    refine lv_aload_n hx hb dX2_lengthOf_5 rfl (lv_at hl 0 rfl) ?_
    refine va_get (D := (dC, dI)) (ci := 2) (v := .int (nI n)) (C := RX2) (T := TX2) (N := 3) hx hb hw inX2 hown hK hP 0 rfl rfl 2 (by decide) (hw _ mw68) (fun _ h9 => h9) rfl dX2_lengthOf_6 ?_
    refine lv_icmp_ge (tgt := 21) hx hb dX2_lengthOf_9 (by decide) (fun c9_1 => ?_) (fun c9_1 => ?_)
    · skip
      have hc := c9_1
      refine lv_iconst (v := -1) hx hb dX2_lengthOf_21 (by decide) ?_
      subst hQ
      exact W.iret (v := (-1)) hx hb hr (fun t ht hW => ⟨_, rfl, Eq.symm (by first | exact ra_neg hc0 | exact ra_big hc hn), ht⟩) (fun _ h => absurd h List.not_mem_nil) dX2_lengthOf_22
    · skip
      have hc := c9_1
      refine lv_aload_n hx hb dX2_lengthOf_12 rfl (lv_at hl 0 rfl) ?_
      refine va_get (D := (dC, dI)) (ci := 2) (v := .ref q2) (C := RX2) (T := TX2) (N := 3) hx hb hw inX2 hown hK hP 0 rfl rfl 1 (by decide) (hw _ mw67) (fun _ h9 => h9) rfl dX2_lengthOf_13 ?_
      refine lv_iload_n hx hb dX2_lengthOf_16 rfl (lv_at hl 1 rfl) ?_
      refine va_iald hx hb hK hP 2 1 rfl rfl (i := i) (ra_vp hc0 hc hn) dX2_lengthOf_17 ?_
      refine lv_goto (tgt := 22) hx hb dX2_lengthOf_18 (by decide) ?_
      subst hQ
      exact W.iret (v := (g (i).toNatClampNeg)) hx hb hr (fun t ht hW => ⟨_, rfl, ra_ok hc0 hc hn, ht⟩) (fun _ h => absurd h List.not_mem_nil) dX2_lengthOf_22

abbrev rm_c_Row_digits : Room := { frames := 0, cells := 0, slots := 0, locals := 0 }
set_option maxHeartbeats 4000000 in
set_option maxRecDepth 100000 in
theorem c_Row_digits (l : Launch) (dC : Nat → ClassId) (dI : Nat → Nat → Nat) (h0 q : Nat) (k : ClassId) (f : Nat → Int32) (n : Nat) (hn : n ≤ 100) : Met l yX1_digits (.code yX1_digits cX1_digits 2 (some (.int)) :: wsA) rm_c_Row_digits (va_Pc [.ref h0] (ro (dC, dI) [(h0, .inr (1, [.ref q, .int (nI n)])), (q, .inl (k, 100, .inl f))] [(k, .int)])) (vp_Si (fun r => r = nI (dg f n))) 0 0 (fun _ => False) := by
  refine Met.ofW (cc := cX1_digits) (maxL := 2) (ret := (some (.int))) (by decide) rfl ?_
  intro p e s m args below meth c s₁ B hml hv
  obtain ⟨hargs, hN, hP, hK⟩ := hv
  have hx := B.exec
  have hb := B.bytes
  have hr := B.returns
  have hw : ∀ w ∈ wsA, w.before args s = true := fun w h => atoms_spec (ws := (.code yX1_digits cX1_digits 2 (some (.int)) :: wsA)) B.pre w (List.mem_cons_of_mem _ h)
  have hown : s.vm.findClass "GlobDesk$Row" = some m.cls := findClass_of_methodNamed B.named
  have hlocks := B.notSynchronized
  generalize hQ : MQ below _ args s _ _ _ = Q
  change W p l e rm_c_Row_digits s m args below meth c s.heap [] 0 0 Q (entryFrame m args 2)
  have hl := lv_entry ([.ref h0]) (n := 2) (Nat.le_of_ble_eq_true rfl)
  rw [show entryFrame m args 2 = entryFrame m ([.ref h0] : List Value).toArray 2 from by rw [hargs], lg_entry_eq]
  generalize (lg_sl ([.ref h0]) ++ List.replicate (2 - (lg_sl ([.ref h0])).length) Slot.unset).toArray = ls at hl ⊢
  have hl : lv_has ls 2 [(0, .ref h0)] := hl
  refine lv_iconst (v := 0) hx hb dX1_digits_0 (by decide) ?_
  refine lv_topi (fun x1 ex1 => ?_)
  obtain rfl : x1 = nI 0 := by rw [ex1]; exact nI_0.symm
  refine lv_istore_n (lv' := [(1, .int (nI 0)), (0, .ref h0)]) hx hb dX1_digits_1 rfl hl (by decide) rfl (fun ls hl => ?_)
  have loop2 : ∀ (nn2 : Nat) (i : Nat) (hi : i ≤ n) (e9 : cnt (fun j => dgb (f j)) (n - i) i = dg f n) (_ : n - i < nn2) (ls : Array Slot) (_ : lv_has ls 2 [(0, .ref h0), (1, .int (nI i))]), W p l e rm_c_Row_digits s m args below meth c s.heap [] 0 0 Q (F0 m 2 ls []) := by
    intro nn2
    induction nn2 with
    | zero => intro i hi e9 hm2 ls hl; exact absurd hm2 (Nat.not_lt_zero _)
    | succ nn2 ih2 =>
      intro i hi e9 hm2 ls hl
      refine lv_iload_n hx hb dX1_digits_2 rfl (lv_at hl 1 rfl) ?_
      refine lv_aload_n hx hb dX1_digits_3 rfl (lv_at hl 0 rfl) ?_
      refine va_get (D := (dC, dI)) (ci := 1) (v := .int (nI n)) (C := RX1) (T := TX1) (N := 2) hx hb hw inX1 hown hK hP 0 rfl rfl 1 (by decide) (hw _ mw37) (fun _ h9 => h9) rfl dX1_digits_4 ?_
      refine lv_icmp_ge (tgt := 38) hx hb dX1_digits_7 (by decide) (fun c7_1 => ?_) (fun c7_1 => ?_)
      · skip
        rw [ti_le, nI_toInt (by omega), nI_toInt (by omega)] at c7_1
        have e8 : i = n := by omega
        refine lv_iload_n hx hb dX1_digits_38 rfl (lv_at hl 1 rfl) ?_
        subst hQ
        exact W.iret (v := (nI i)) hx hb hr (fun t ht hW => ⟨_, rfl, (by first | (rw [← e9, cnt_stop d1]) | (subst e8; rw [← e9, Nat.sub_self]; rfl)), ht⟩) (fun _ h => absurd h List.not_mem_nil) dX1_digits_39
      · skip
        rw [ti_le, nI_toInt (by omega), nI_toInt (by omega)] at c7_1
        refine lv_aload_n hx hb dX1_digits_10 rfl (lv_at hl 0 rfl) ?_
        refine va_get (D := (dC, dI)) (ci := 1) (v := .ref q) (C := RX1) (T := TX1) (N := 2) hx hb hw inX1 hown hK hP 0 rfl rfl 0 (by decide) (hw _ mw36) (fun _ h9 => h9) rfl dX1_digits_11 ?_
        refine lv_iload_n hx hb dX1_digits_14 rfl (lv_at hl 1 rfl) ?_
        refine va_iald hx hb hK hP 1 0 rfl rfl (i := (nI i)) (vp_in_nI (by omega) (by omega)) dX1_digits_15 ?_
        refine lv_topi (fun x3 ex3 => ?_)
        obtain rfl : x3 = f i := by rw [ex3, nI_clamp (by omega)]
        refine lv_bipush (v := 48) hx hb dX1_digits_16 (by decide) ?_
        refine lv_icmp_lt (tgt := 38) hx hb dX1_digits_18 (by decide) (fun c18_3 => ?_) (fun c18_3 => ?_)
        · skip
          have d1 := dgb_lt c18_3
          refine lv_iload_n hx hb dX1_digits_38 rfl (lv_at hl 1 rfl) ?_
          subst hQ
          exact W.iret (v := (nI i)) hx hb hr (fun t ht hW => ⟨_, rfl, (by first | (rw [← e9, cnt_stop d1]) | (subst e8; rw [← e9, Nat.sub_self]; rfl)), ht⟩) (fun _ h => absurd h List.not_mem_nil) dX1_digits_39
        · skip
          have d1 := c18_3
          refine lv_aload_n hx hb dX1_digits_21 rfl (lv_at hl 0 rfl) ?_
          refine va_get (D := (dC, dI)) (ci := 1) (v := .ref q) (C := RX1) (T := TX1) (N := 2) hx hb hw inX1 hown hK hP 0 rfl rfl 0 (by decide) (hw _ mw36) (fun _ h9 => h9) rfl dX1_digits_22 ?_
          refine lv_iload_n hx hb dX1_digits_25 rfl (lv_at hl 1 rfl) ?_
          refine va_iald hx hb hK hP 1 0 rfl rfl (i := (nI i)) (vp_in_nI (by omega) (by omega)) dX1_digits_26 ?_
          refine lv_topi (fun x5 ex5 => ?_)
          obtain rfl : x5 = f i := by rw [ex5, nI_clamp (by omega)]
          refine lv_bipush (v := 57) hx hb dX1_digits_27 (by decide) ?_
          refine lv_icmp_gt (tgt := 38) hx hb dX1_digits_29 (by decide) (fun c29_5 => ?_) (fun c29_5 => ?_)
          · skip
            have d1 := dgb_gt c29_5
            refine lv_iload_n hx hb dX1_digits_38 rfl (lv_at hl 1 rfl) ?_
            subst hQ
            exact W.iret (v := (nI i)) hx hb hr (fun t ht hW => ⟨_, rfl, (by first | (rw [← e9, cnt_stop d1]) | (subst e8; rw [← e9, Nat.sub_self]; rfl)), ht⟩) (fun _ h => absurd h List.not_mem_nil) dX1_digits_39
          · skip
            have d2 := c29_5
            refine lv_iinc (v := nI (i + 1)) (lv' := [(1, .int (nI (i + 1))), (0, .ref h0)]) hx hb dX1_digits_32 hl (k := 1) rfl (nI_inc i) (by decide) rfl (fun ls hl => ?_)
            refine lv_goto (tgt := 2) hx hb dX1_digits_35 (by decide) ?_
            exact ih2 (i + 1) (by omega) ((cnt_step (p := fun j => dgb (f j)) (k := n - i) (i := i) (dgb_in d1 d2) (by omega)).symm.trans e9) (by omega) ls (lv_sub hl [1, 0] rfl)
  exact loop2 (n + 1) 0 (Nat.zero_le _) rfl (by omega) ls (lv_sub hl [1, 0] rfl)

abbrev rm_c_Row_zeros : Room := { frames := 1, cells := 0, slots := 0, locals := 21 }
set_option maxHeartbeats 4000000 in
set_option maxRecDepth 100000 in
theorem c_Row_zeros (l : Launch) (dC : Nat → ClassId) (dI : Nat → Nat → Nat) (h0 q : Nat) (k : ClassId) (f : Nat → Int32) (n : Nat) (hn : n ≤ 100) (b : Nat) (hbn : b ≤ n) : Met l yX1_zerosBefore (.code yX1_zerosBefore cX1_zerosBefore 3 (some (.int)) :: wsA) rm_c_Row_zeros (va_Pc [.ref h0, .int (nI b)] (ro (dC, dI) [(h0, .inr (1, [.ref q, .int (nI n)])), (q, .inl (k, 100, .inl f))] [(k, .int)])) (vp_Si (fun r => r = nI (zr f b))) 0 0 (fun _ => False) := by
  refine Met.ofW (cc := cX1_zerosBefore) (maxL := 3) (ret := (some (.int))) (by decide) rfl ?_
  intro p e s m args below meth c s₁ B hml hv
  obtain ⟨hargs, hN, hP, hK⟩ := hv
  have hx := B.exec
  have hb := B.bytes
  have hr := B.returns
  have hw : ∀ w ∈ wsA, w.before args s = true := fun w h => atoms_spec (ws := (.code yX1_zerosBefore cX1_zerosBefore 3 (some (.int)) :: wsA)) B.pre w (List.mem_cons_of_mem _ h)
  have hown : s.vm.findClass "GlobDesk$Row" = some m.cls := findClass_of_methodNamed B.named
  have hlocks := B.notSynchronized
  generalize hQ : MQ below _ args s _ _ _ = Q
  change W p l e rm_c_Row_zeros s m args below meth c s.heap [] 0 0 Q (entryFrame m args 3)
  have hl := lv_entry ([.ref h0, .int (nI b)]) (n := 3) (Nat.le_of_ble_eq_true rfl)
  rw [show entryFrame m args 3 = entryFrame m ([.ref h0, .int (nI b)] : List Value).toArray 3 from by rw [hargs], lg_entry_eq]
  generalize (lg_sl ([.ref h0, .int (nI b)]) ++ List.replicate (3 - (lg_sl ([.ref h0, .int (nI b)])).length) Slot.unset).toArray = ls at hl ⊢
  have hl : lv_has ls 3 [(0, .ref h0), (1, .int (nI b))] := hl
  refine lv_iconst (v := 0) hx hb dX1_zerosBefore_0 (by decide) ?_
  refine lv_topi (fun x1 ex1 => ?_)
  obtain rfl : x1 = nI 0 := by rw [ex1]; exact nI_0.symm
  refine lv_istore_n (lv' := [(2, .int (nI 0)), (0, .ref h0), (1, .int (nI b))]) hx hb dX1_zerosBefore_1 rfl hl (by decide) rfl (fun ls hl => ?_)
  have loop2 : ∀ (nn2 : Nat) (i : Nat) (hi : i ≤ b) (e9 : cnt (fun j => decide (f j = 48)) (b - i) i = zr f b) (_ : b - i < nn2) (ls : Array Slot) (_ : lv_has ls 3 [(0, .ref h0), (1, .int (nI b)), (2, .int (nI i))]), W p l e rm_c_Row_zeros s m args below meth c s.heap [] 0 0 Q (F0 m 2 ls []) := by
    intro nn2
    induction nn2 with
    | zero => intro i hi e9 hm2 ls hl; exact absurd hm2 (Nat.not_lt_zero _)
    | succ nn2 ih2 =>
      intro i hi e9 hm2 ls hl
      refine lv_iload_n hx hb dX1_zerosBefore_2 rfl (lv_at hl 2 rfl) ?_
      refine lv_iload_n hx hb dX1_zerosBefore_3 rfl (lv_at hl 1 rfl) ?_
      refine lv_icmp_ge (tgt := 23) hx hb dX1_zerosBefore_4 (by decide) (fun c4_1 => ?_) (fun c4_1 => ?_)
      · skip
        rw [ti_le, nI_toInt (by omega), nI_toInt (by omega)] at c4_1
        have e8 : i = b := by omega
        refine lv_iload_n hx hb dX1_zerosBefore_23 rfl (lv_at hl 2 rfl) ?_
        subst hQ
        exact W.iret (v := (nI i)) hx hb hr (fun t ht hW => ⟨_, rfl, (by first | (rw [← e9, cnt_stop (decide_eq_false d1)]) | (subst e8; rw [← e9, Nat.sub_self]; rfl)), ht⟩) (fun _ h => absurd h List.not_mem_nil) dX1_zerosBefore_24
      · skip
        rw [ti_le, nI_toInt (by omega), nI_toInt (by omega)] at c4_1
        refine lv_aload_n hx hb dX1_zerosBefore_7 rfl (lv_at hl 0 rfl) ?_
        refine lv_iload_n hx hb dX1_zerosBefore_8 rfl (lv_at hl 2 rfl) ?_
        refine vp_callSi (va_Run.run (va_runV (As := [.int (nI i)]) (rest := []) ⟨hx, hb, hml, hown, hw⟩ (c_Row_at l dC dI h0 q k f n hn (nI i)) (cwV 1 hw (gV mw136 mw137 mw138 mw17 mw139) rfl rfl rfl (by decide +kernel) ⟨Nat.le_of_ble_eq_true rfl, Nat.le_of_ble_eq_true rfl⟩) (ro.V (q0 := 0) (ci := 1) hN (hK.sub (tys' := [(k, .int)]) [0] rfl) (hP.sub (ws' := [(h0, .inr (1, [.ref q, .int (nI n)])), (q, .inl (k, 100, .inl f))]) [0, 1] rfl) rfl rfl) rfl rfl hl.1 rfl (lv_room (Nat.le_of_ble_eq_true rfl)) dX1_zerosBefore_9 ⟨Nat.le_of_ble_eq_true rfl, Nat.le_of_ble_eq_true rfl⟩)) (fun r3 hr3 => ?_)
        rw [ra_in (by omega) hn] at hr3
        subst hr3
        refine lv_bipush (v := 48) hx hb dX1_zerosBefore_12 (by decide) ?_
        refine lv_icmp_ne (tgt := 23) hx hb dX1_zerosBefore_14 (by decide) (fun c14_3 => ?_) (fun c14_3 => ?_)
        · skip
          have d1 := c14_3
          refine lv_iload_n hx hb dX1_zerosBefore_23 rfl (lv_at hl 2 rfl) ?_
          subst hQ
          exact W.iret (v := (nI i)) hx hb hr (fun t ht hW => ⟨_, rfl, (by first | (rw [← e9, cnt_stop (decide_eq_false d1)]) | (subst e8; rw [← e9, Nat.sub_self]; rfl)), ht⟩) (fun _ h => absurd h List.not_mem_nil) dX1_zerosBefore_24
        · skip
          have d1 := c14_3
          refine lv_iinc (v := nI (i + 1)) (lv' := [(2, .int (nI (i + 1))), (0, .ref h0), (1, .int (nI b))]) hx hb dX1_zerosBefore_17 hl (k := 2) rfl (nI_inc i) (by decide) rfl (fun ls hl => ?_)
          refine lv_goto (tgt := 2) hx hb dX1_zerosBefore_20 (by decide) ?_
          exact ih2 (i + 1) (by omega) ((cnt_step (p := fun j => decide (f j = 48)) (k := b - i) (i := i) (decide_eq_true (by first | exact d1 | exact Decidable.not_not.mp d1)) (by omega)).symm.trans e9) (by omega) ls (lv_sub hl [1, 2, 0] rfl)
  exact loop2 (b + 1) 0 (Nat.zero_le _) rfl (by omega) ls (lv_sub hl [1, 2, 0] rfl)

abbrev rm_c_sign : Room := { frames := 0, cells := 0, slots := 0, locals := 0 }
set_option maxHeartbeats 4000000 in
set_option maxRecDepth 100000 in
theorem c_sign (l : Launch) (a b : Int32) : Met l yX3_signOf (.code yX3_signOf cX3_signOf 2 (some (.int)) :: wsA) rm_c_sign (va_Pc [.int (a), .int (b)] (fun _ => True)) (vp_Si (fun r => r = sg a b)) 0 0 (fun _ => False) := by
  refine Met.ofW (cc := cX3_signOf) (maxL := 2) (ret := (some (.int))) (by decide) rfl ?_
  intro p e s m args below meth c s₁ B hml hv
  obtain ⟨hargs, -⟩ := hv
  have hx := B.exec
  have hb := B.bytes
  have hr := B.returns
  have hw : ∀ w ∈ wsA, w.before args s = true := fun w h => atoms_spec (ws := (.code yX3_signOf cX3_signOf 2 (some (.int)) :: wsA)) B.pre w (List.mem_cons_of_mem _ h)
  have hown : s.vm.findClass "GlobDesk" = some m.cls := findClass_of_methodNamed B.named
  have hlocks := B.notSynchronized
  generalize hQ : MQ below _ args s _ _ _ = Q
  change W p l e rm_c_sign s m args below meth c s.heap [] 0 0 Q (entryFrame m args 2)
  have hl := lv_entry ([.int (a), .int (b)]) (n := 2) (Nat.le_of_ble_eq_true rfl)
  rw [show entryFrame m args 2 = entryFrame m ([.int (a), .int (b)] : List Value).toArray 2 from by rw [hargs], lg_entry_eq]
  generalize (lg_sl ([.int (a), .int (b)]) ++ List.replicate (2 - (lg_sl ([.int (a), .int (b)])).length) Slot.unset).toArray = ls at hl ⊢
  have hl : lv_has ls 2 [(0, .int (a)), (1, .int (b))] := hl
  refine lv_iload_n hx hb dX3_signOf_0 rfl (lv_at hl 0 rfl) ?_
  refine lv_iload_n hx hb dX3_signOf_1 rfl (lv_at hl 1 rfl) ?_
  refine lv_icmp_ge (tgt := 7) hx hb dX3_signOf_2 (by decide) (fun c2_0 => ?_) (fun c2_0 => ?_)
  · skip
    have q1 := c2_0
    refine lv_iload_n hx hb dX3_signOf_7 rfl (lv_at hl 0 rfl) ?_
    refine lv_iload_n hx hb dX3_signOf_8 rfl (lv_at hl 1 rfl) ?_
    refine lv_icmp_le (tgt := 16) hx hb dX3_signOf_9 (by decide) (fun c9_1 => ?_) (fun c9_1 => ?_)
    · skip
      have q2 := c9_1
      refine lv_iconst (v := 0) hx hb dX3_signOf_16 (by decide) ?_
      subst hQ
      exact W.iret (v := 0) hx hb hr (fun t ht hW => ⟨_, rfl, sg_e q1 q2, ht⟩) (fun _ h => absurd h List.not_mem_nil) dX3_signOf_17
    · skip
      have q2 := c9_1
      refine lv_iconst (v := 1) hx hb dX3_signOf_12 (by decide) ?_
      refine lv_goto (tgt := 17) hx hb dX3_signOf_13 (by decide) ?_
      subst hQ
      exact W.iret (v := 1) hx hb hr (fun t ht hW => ⟨_, rfl, sg_g q1 q2, ht⟩) (fun _ h => absurd h List.not_mem_nil) dX3_signOf_17
  · skip
    have q1 := c2_0
    refine lv_iconst (v := -1) hx hb dX3_signOf_5 (by decide) ?_
    subst hQ
    exact W.iret (v := (-1)) hx hb hr (fun t ht hW => ⟨_, rfl, sg_l q1, ht⟩) (fun _ h => absurd h List.not_mem_nil) dX3_signOf_6

abbrev rm_c_fold : Room := { frames := 0, cells := 0, slots := 0, locals := 0 }
set_option maxHeartbeats 4000000 in
set_option maxRecDepth 100000 in
theorem c_fold (l : Launch) (x cp : Int32) : Met l yX3_folded (.code yX3_folded cX3_folded 3 (some (.int)) :: wsA) rm_c_fold (va_Pc [.int (x), .int (cp)] (fun _ => True)) (vp_Si (fun r => r = fo x cp)) 0 0 (fun _ => False) := by
  refine Met.ofW (cc := cX3_folded) (maxL := 3) (ret := (some (.int))) (by decide) rfl ?_
  intro p e s m args below meth c s₁ B hml hv
  obtain ⟨hargs, -⟩ := hv
  have hx := B.exec
  have hb := B.bytes
  have hr := B.returns
  have hw : ∀ w ∈ wsA, w.before args s = true := fun w h => atoms_spec (ws := (.code yX3_folded cX3_folded 3 (some (.int)) :: wsA)) B.pre w (List.mem_cons_of_mem _ h)
  have hown : s.vm.findClass "GlobDesk" = some m.cls := findClass_of_methodNamed B.named
  have hlocks := B.notSynchronized
  generalize hQ : MQ below _ args s _ _ _ = Q
  change W p l e rm_c_fold s m args below meth c s.heap [] 0 0 Q (entryFrame m args 3)
  have hl := lv_entry ([.int (x), .int (cp)]) (n := 3) (Nat.le_of_ble_eq_true rfl)
  rw [show entryFrame m args 3 = entryFrame m ([.int (x), .int (cp)] : List Value).toArray 3 from by rw [hargs], lg_entry_eq]
  generalize (lg_sl ([.int (x), .int (cp)]) ++ List.replicate (3 - (lg_sl ([.int (x), .int (cp)])).length) Slot.unset).toArray = ls at hl ⊢
  have hl : lv_has ls 3 [(0, .int (x)), (1, .int (cp))] := hl
  refine lv_iload_n hx hb dX3_folded_0 rfl (lv_at hl 0 rfl) ?_
  refine lv_bipush (v := 97) hx hb dX3_folded_1 (by decide) ?_
  refine lv_icmp_lt (tgt := 16) hx hb dX3_folded_3 (by decide) (fun c3_0 => ?_) (fun c3_0 => ?_)
  · skip
    have q1 := c3_0
    refine lv_iconst (v := 0) hx hb dX3_folded_16 (by decide) ?_
    refine lv_istore_n (lv' := [(2, .int (0)), (0, .int (x)), (1, .int (cp))]) hx hb dX3_folded_17 rfl hl (by decide) rfl (fun ls hl => ?_)
    refine lv_iload_n hx hb dX3_folded_18 rfl (lv_at hl 2 rfl) ?_
    refine lv_if_ne (tgt := 36) hx hb dX3_folded_19 (by decide) (fun c19_1 => ?_) (fun c19_1 => ?_)
    · skip
      have q3 := c19_1
      refine lv_iload_n hx hb dX3_folded_36 rfl (lv_at hl 1 rfl) ?_
      subst hQ
      exact W.iret (v := x) hx hb hr (fun t ht hW => ⟨_, rfl, (by first | (rw [fo_t q1 q2 (by first | exact q3 | exact Decidable.not_not.mp q3)]; exact sub32 x) | exact (fo_c q3).symm | exact (fo_l q1).symm | exact (fo_g q2).symm), ht⟩) (fun _ h => absurd h List.not_mem_nil) dX3_folded_37
    · skip
      have q3 := c19_1
      refine lv_iload_n hx hb dX3_folded_22 rfl (lv_at hl 0 rfl) ?_
      refine lv_if_eq (tgt := 36) hx hb dX3_folded_23 (by decide) (fun c23_2 => ?_) (fun c23_2 => ?_)
      · skip
        refine lv_iload_n hx hb dX3_folded_36 rfl (lv_at hl 1 rfl) ?_
        subst hQ
        exact W.iret (v := x) hx hb hr (fun t ht hW => ⟨_, rfl, (by first | (rw [fo_t q1 q2 (by first | exact q3 | exact Decidable.not_not.mp q3)]; exact sub32 x) | exact (fo_c q3).symm | exact (fo_l q1).symm | exact (fo_g q2).symm), ht⟩) (fun _ h => absurd h List.not_mem_nil) dX3_folded_37
      · skip
        exact absurd rfl c23_2
  · skip
    have q1 := c3_0
    refine lv_iload_n hx hb dX3_folded_6 rfl (lv_at hl 0 rfl) ?_
    refine lv_bipush (v := 122) hx hb dX3_folded_7 (by decide) ?_
    refine lv_icmp_gt (tgt := 16) hx hb dX3_folded_9 (by decide) (fun c9_3 => ?_) (fun c9_3 => ?_)
    · skip
      have q2 := c9_3
      refine lv_iconst (v := 0) hx hb dX3_folded_16 (by decide) ?_
      refine lv_istore_n (lv' := [(2, .int (0)), (0, .int (x)), (1, .int (cp))]) hx hb dX3_folded_17 rfl hl (by decide) rfl (fun ls hl => ?_)
      refine lv_iload_n hx hb dX3_folded_18 rfl (lv_at hl 2 rfl) ?_
      refine lv_if_ne (tgt := 36) hx hb dX3_folded_19 (by decide) (fun c19_4 => ?_) (fun c19_4 => ?_)
      · skip
        have q3 := c19_4
        refine lv_iload_n hx hb dX3_folded_36 rfl (lv_at hl 1 rfl) ?_
        subst hQ
        exact W.iret (v := x) hx hb hr (fun t ht hW => ⟨_, rfl, (by first | (rw [fo_t q1 q2 (by first | exact q3 | exact Decidable.not_not.mp q3)]; exact sub32 x) | exact (fo_c q3).symm | exact (fo_l q1).symm | exact (fo_g q2).symm), ht⟩) (fun _ h => absurd h List.not_mem_nil) dX3_folded_37
      · skip
        have q3 := c19_4
        refine lv_iload_n hx hb dX3_folded_22 rfl (lv_at hl 0 rfl) ?_
        refine lv_if_eq (tgt := 36) hx hb dX3_folded_23 (by decide) (fun c23_5 => ?_) (fun c23_5 => ?_)
        · skip
          refine lv_iload_n hx hb dX3_folded_36 rfl (lv_at hl 1 rfl) ?_
          subst hQ
          exact W.iret (v := x) hx hb hr (fun t ht hW => ⟨_, rfl, (by first | (rw [fo_t q1 q2 (by first | exact q3 | exact Decidable.not_not.mp q3)]; exact sub32 x) | exact (fo_c q3).symm | exact (fo_l q1).symm | exact (fo_g q2).symm), ht⟩) (fun _ h => absurd h List.not_mem_nil) dX3_folded_37
        · skip
          exact absurd rfl c23_5
    · skip
      have q2 := c9_3
      refine lv_iconst (v := 1) hx hb dX3_folded_12 (by decide) ?_
      refine lv_goto (tgt := 17) hx hb dX3_folded_13 (by decide) ?_
      refine lv_istore_n (lv' := [(2, .int (1)), (0, .int (x)), (1, .int (cp))]) hx hb dX3_folded_17 rfl hl (by decide) rfl (fun ls hl => ?_)
      refine lv_iload_n hx hb dX3_folded_18 rfl (lv_at hl 2 rfl) ?_
      refine lv_if_ne (tgt := 36) hx hb dX3_folded_19 (by decide) (fun c19_6 => ?_) (fun c19_6 => ?_)
      · skip
        have q3 := c19_6
        refine lv_iload_n hx hb dX3_folded_36 rfl (lv_at hl 1 rfl) ?_
        subst hQ
        exact W.iret (v := x) hx hb hr (fun t ht hW => ⟨_, rfl, (by first | (rw [fo_t q1 q2 (by first | exact q3 | exact Decidable.not_not.mp q3)]; exact sub32 x) | exact (fo_c q3).symm | exact (fo_l q1).symm | exact (fo_g q2).symm), ht⟩) (fun _ h => absurd h List.not_mem_nil) dX3_folded_37
      · skip
        have q3 := c19_6
        refine lv_iload_n hx hb dX3_folded_22 rfl (lv_at hl 0 rfl) ?_
        refine lv_if_eq (tgt := 36) hx hb dX3_folded_23 (by decide) (fun c23_7 => ?_) (fun c23_7 => ?_)
        · skip
          exact absurd c23_7 (by decide)
        · skip
          refine lv_iload_n hx hb dX3_folded_26 rfl (lv_at hl 1 rfl) ?_
          refine lv_bipush (v := 97) hx hb dX3_folded_27 (by decide) ?_
          refine lv_isub hx hb dX3_folded_29 ?_
          refine lv_bipush (v := 65) hx hb dX3_folded_30 (by decide) ?_
          refine lv_iadd hx hb dX3_folded_32 ?_
          refine lv_goto (tgt := 37) hx hb dX3_folded_33 (by decide) ?_
          subst hQ
          exact W.iret (v := ((x) - (97)) + (65)) hx hb hr (fun t ht hW => ⟨_, rfl, (by first | (rw [fo_t q1 q2 (by first | exact q3 | exact Decidable.not_not.mp q3)]; exact sub32 x) | exact (fo_c q3).symm | exact (fo_l q1).symm | exact (fo_g q2).symm), ht⟩) (fun _ h => absurd h List.not_mem_nil) dX3_folded_37

abbrev rm_c_isCmp : Room := { frames := 0, cells := 0, slots := 0, locals := 0 }
set_option maxHeartbeats 4000000 in
set_option maxRecDepth 100000 in
theorem c_isCmp (l : Launch) (x : Int32) : Met l yX3_isComparator (.code yX3_isComparator cX3_isComparator 1 (some (.boolean)) :: wsA) rm_c_isCmp (va_Pc [.int (x)] (fun _ => True)) (vp_Si (fun r => r = if 0 ≤ x.toInt ∧ x.toInt ≤ 2 then 1 else 0)) 0 0 (fun _ => False) := by
  refine Met.ofW (cc := cX3_isComparator) (maxL := 1) (ret := (some (.boolean))) (by decide) rfl ?_
  intro p e s m args below meth c s₁ B hml hv
  obtain ⟨hargs, -⟩ := hv
  have hx := B.exec
  have hb := B.bytes
  have hr := B.returns
  have hw : ∀ w ∈ wsA, w.before args s = true := fun w h => atoms_spec (ws := (.code yX3_isComparator cX3_isComparator 1 (some (.boolean)) :: wsA)) B.pre w (List.mem_cons_of_mem _ h)
  have hown : s.vm.findClass "GlobDesk" = some m.cls := findClass_of_methodNamed B.named
  have hlocks := B.notSynchronized
  generalize hQ : MQ below _ args s _ _ _ = Q
  change W p l e rm_c_isCmp s m args below meth c s.heap [] 0 0 Q (entryFrame m args 1)
  have hl := lv_entry ([.int (x)]) (n := 1) (Nat.le_of_ble_eq_true rfl)
  rw [show entryFrame m args 1 = entryFrame m ([.int (x)] : List Value).toArray 1 from by rw [hargs], lg_entry_eq]
  generalize (lg_sl ([.int (x)]) ++ List.replicate (1 - (lg_sl ([.int (x)])).length) Slot.unset).toArray = ls at hl ⊢
  have hl : lv_has ls 1 [(0, .int (x))] := hl
  refine lv_iload_n hx hb dX3_isComparator_0 rfl (lv_at hl 0 rfl) ?_
  refine lv_if_lt (tgt := 13) hx hb dX3_isComparator_1 (by decide) (fun c1_0 => ?_) (fun c1_0 => ?_)
  · skip
    have q1 := c1_0
    rw [ti_lt, tc_0] at q1
    refine lv_iconst (v := 0) hx hb dX3_isComparator_13 (by decide) ?_
    subst hQ
    exact W.zret (v := 0) hx hb hr (by decide) (fun t ht hW => ⟨_, rfl, (by first | exact (if_pos (by omega)).symm | exact (if_neg (by omega)).symm), ht⟩) (fun _ h => absurd h List.not_mem_nil) dX3_isComparator_14
  · skip
    have q1 := c1_0
    rw [ti_lt, tc_0] at q1
    refine lv_iload_n hx hb dX3_isComparator_4 rfl (lv_at hl 0 rfl) ?_
    refine lv_iconst (v := 2) hx hb dX3_isComparator_5 (by decide) ?_
    refine lv_icmp_gt (tgt := 13) hx hb dX3_isComparator_6 (by decide) (fun c6_1 => ?_) (fun c6_1 => ?_)
    · skip
      have q2 := c6_1
      rw [ti_lt, tc_2] at q2
      refine lv_iconst (v := 0) hx hb dX3_isComparator_13 (by decide) ?_
      subst hQ
      exact W.zret (v := 0) hx hb hr (by decide) (fun t ht hW => ⟨_, rfl, (by first | exact (if_pos (by omega)).symm | exact (if_neg (by omega)).symm), ht⟩) (fun _ h => absurd h List.not_mem_nil) dX3_isComparator_14
    · skip
      have q2 := c6_1
      rw [ti_lt, tc_2] at q2
      refine lv_iconst (v := 1) hx hb dX3_isComparator_9 (by decide) ?_
      refine lv_goto (tgt := 14) hx hb dX3_isComparator_10 (by decide) ?_
      subst hQ
      exact W.zret (v := 1) hx hb hr (by decide) (fun t ht hW => ⟨_, rfl, (by first | exact (if_pos (by omega)).symm | exact (if_neg (by omega)).symm), ht⟩) (fun _ h => absurd h List.not_mem_nil) dX3_isComparator_14
