abbrev rm_m_fold : Room := { frames := 0, cells := 0, slots := 0, locals := 0 }
set_option maxHeartbeats 4000000 in
set_option maxRecDepth 100000 in
theorem m_fold (l : Launch) (x cp : Int32) : Met l yX4_folded (.code yX4_folded cX4_folded 2 (some (.int)) :: wsA) rm_m_fold (va_Pc [.int (x), .int (cp)] (fun _ => True)) (vp_Si (fun r => r = fo x cp)) 0 0 (fun _ => False) := by
  refine Met.ofW (cc := cX4_folded) (maxL := 2) (ret := (some (.int))) (by decide) rfl ?_
  intro p e s m args below meth c s₁ B hml hv
  obtain ⟨hargs, -⟩ := hv
  have hx := B.exec
  have hb := B.bytes
  have hr := B.returns
  have hw : ∀ w ∈ wsA, w.before args s = true := fun w h => atoms_spec (ws := (.code yX4_folded cX4_folded 2 (some (.int)) :: wsA)) B.pre w (List.mem_cons_of_mem _ h)
  have hown : s.vm.findClass "GlobDeskModel" = some m.cls := findClass_of_methodNamed B.named
  have hlocks := B.notSynchronized
  generalize hQ : MQ below _ args s _ _ _ = Q
  change W p l e rm_m_fold s m args below meth c s.heap [] 0 0 Q (entryFrame m args 2)
  have hl := lv_entry ([.int (x), .int (cp)]) (n := 2) (Nat.le_of_ble_eq_true rfl)
  rw [show entryFrame m args 2 = entryFrame m ([.int (x), .int (cp)] : List Value).toArray 2 from by rw [hargs], lg_entry_eq]
  generalize (lg_sl ([.int (x), .int (cp)]) ++ List.replicate (2 - (lg_sl ([.int (x), .int (cp)])).length) Slot.unset).toArray = ls at hl ⊢
  have hl : lv_has ls 2 [(0, .int (x)), (1, .int (cp))] := hl
  refine lv_iload_n hx hb dX4_folded_0 rfl (lv_at hl 1 rfl) ?_
  refine lv_if_ne (tgt := 23) hx hb dX4_folded_1 (by decide) (fun c1_0 => ?_) (fun c1_0 => ?_)
  · skip
    have q3 := c1_0
    refine lv_iload_n hx hb dX4_folded_23 rfl (lv_at hl 0 rfl) ?_
    subst hQ
    exact W.iret (v := x) hx hb hr (fun t ht hW => ⟨_, rfl, (by first | (rw [fo_t q1 q2 (by first | exact q3 | exact Decidable.not_not.mp q3)]; done) | exact (fo_c q3).symm | exact (fo_l q1).symm | exact (fo_g q2).symm), ht⟩) (fun _ h => absurd h List.not_mem_nil) dX4_folded_24
  · skip
    have q3 := c1_0
    refine lv_iload_n hx hb dX4_folded_4 rfl (lv_at hl 0 rfl) ?_
    refine lv_bipush (v := 97) hx hb dX4_folded_5 (by decide) ?_
    refine lv_icmp_lt (tgt := 23) hx hb dX4_folded_7 (by decide) (fun c7_1 => ?_) (fun c7_1 => ?_)
    · skip
      have q1 := c7_1
      refine lv_iload_n hx hb dX4_folded_23 rfl (lv_at hl 0 rfl) ?_
      subst hQ
      exact W.iret (v := x) hx hb hr (fun t ht hW => ⟨_, rfl, (by first | (rw [fo_t q1 q2 (by first | exact q3 | exact Decidable.not_not.mp q3)]; done) | exact (fo_c q3).symm | exact (fo_l q1).symm | exact (fo_g q2).symm), ht⟩) (fun _ h => absurd h List.not_mem_nil) dX4_folded_24
    · skip
      have q1 := c7_1
      refine lv_iload_n hx hb dX4_folded_10 rfl (lv_at hl 0 rfl) ?_
      refine lv_bipush (v := 122) hx hb dX4_folded_11 (by decide) ?_
      refine lv_icmp_gt (tgt := 23) hx hb dX4_folded_13 (by decide) (fun c13_2 => ?_) (fun c13_2 => ?_)
      · skip
        have q2 := c13_2
        refine lv_iload_n hx hb dX4_folded_23 rfl (lv_at hl 0 rfl) ?_
        subst hQ
        exact W.iret (v := x) hx hb hr (fun t ht hW => ⟨_, rfl, (by first | (rw [fo_t q1 q2 (by first | exact q3 | exact Decidable.not_not.mp q3)]; done) | exact (fo_c q3).symm | exact (fo_l q1).symm | exact (fo_g q2).symm), ht⟩) (fun _ h => absurd h List.not_mem_nil) dX4_folded_24
      · skip
        have q2 := c13_2
        refine lv_iload_n hx hb dX4_folded_16 rfl (lv_at hl 0 rfl) ?_
        refine lv_bipush (v := 32) hx hb dX4_folded_17 (by decide) ?_
        refine lv_isub hx hb dX4_folded_19 ?_
        refine lv_goto (tgt := 24) hx hb dX4_folded_20 (by decide) ?_
        subst hQ
        exact W.iret (v := (x) - (32)) hx hb hr (fun t ht hW => ⟨_, rfl, (by first | (rw [fo_t q1 q2 (by first | exact q3 | exact Decidable.not_not.mp q3)]; done) | exact (fo_c q3).symm | exact (fo_l q1).symm | exact (fo_g q2).symm), ht⟩) (fun _ h => absurd h List.not_mem_nil) dX4_folded_24

abbrev rm_m_digits : Room := { frames := 0, cells := 0, slots := 0, locals := 0 }
set_option maxHeartbeats 4000000 in
set_option maxRecDepth 100000 in
theorem m_digits (l : Launch) (dC : Nat → ClassId) (dI : Nat → Nat → Nat) (a : Nat) (k : ClassId) (f : Nat → Int32) (n : Nat) (hn : n ≤ 100) : Met l yX4_digits (.code yX4_digits cX4_digits 3 (some (.int)) :: wsA) rm_m_digits (va_Pc [.ref a, .int (nI n)] (ro (dC, dI) [(a, .inl (k, 100, .inl f))] [(k, .int)])) (vp_Si (fun r => r = nI (dg f n))) 0 0 (fun _ => False) := by
  refine Met.ofW (cc := cX4_digits) (maxL := 3) (ret := (some (.int))) (by decide) rfl ?_
  intro p e s m args below meth c s₁ B hml hv
  obtain ⟨hargs, hN, hP, hK⟩ := hv
  have hx := B.exec
  have hb := B.bytes
  have hr := B.returns
  have hw : ∀ w ∈ wsA, w.before args s = true := fun w h => atoms_spec (ws := (.code yX4_digits cX4_digits 3 (some (.int)) :: wsA)) B.pre w (List.mem_cons_of_mem _ h)
  have hown : s.vm.findClass "GlobDeskModel" = some m.cls := findClass_of_methodNamed B.named
  have hlocks := B.notSynchronized
  generalize hQ : MQ below _ args s _ _ _ = Q
  change W p l e rm_m_digits s m args below meth c s.heap [] 0 0 Q (entryFrame m args 3)
  have hl := lv_entry ([.ref a, .int (nI n)]) (n := 3) (Nat.le_of_ble_eq_true rfl)
  rw [show entryFrame m args 3 = entryFrame m ([.ref a, .int (nI n)] : List Value).toArray 3 from by rw [hargs], lg_entry_eq]
  generalize (lg_sl ([.ref a, .int (nI n)]) ++ List.replicate (3 - (lg_sl ([.ref a, .int (nI n)])).length) Slot.unset).toArray = ls at hl ⊢
  have hl : lv_has ls 3 [(0, .ref a), (1, .int (nI n))] := hl
  refine lv_iconst (v := 0) hx hb dX4_digits_0 (by decide) ?_
  refine lv_topi (fun x1 ex1 => ?_)
  obtain rfl : x1 = nI 0 := by rw [ex1]; exact nI_0.symm
  refine lv_istore_n (lv' := [(2, .int (nI 0)), (0, .ref a), (1, .int (nI n))]) hx hb dX4_digits_1 rfl hl (by decide) rfl (fun ls hl => ?_)
  have loop2 : ∀ (nn2 : Nat) (i : Nat) (hi : i ≤ n) (e9 : cnt (fun j => dgb (f j)) (n - i) i = dg f n) (_ : n - i < nn2) (ls : Array Slot) (_ : lv_has ls 3 [(0, .ref a), (1, .int (nI n)), (2, .int (nI i))]), W p l e rm_m_digits s m args below meth c s.heap [] 0 0 Q (F0 m 2 ls []) := by
    intro nn2
    induction nn2 with
    | zero => intro i hi e9 hm2 ls hl; exact absurd hm2 (Nat.not_lt_zero _)
    | succ nn2 ih2 =>
      intro i hi e9 hm2 ls hl
      refine lv_iload_n hx hb dX4_digits_2 rfl (lv_at hl 2 rfl) ?_
      refine lv_iload_n hx hb dX4_digits_3 rfl (lv_at hl 1 rfl) ?_
      refine lv_icmp_ge (tgt := 29) hx hb dX4_digits_4 (by decide) (fun c4_1 => ?_) (fun c4_1 => ?_)
      · skip
        rw [ti_le, nI_toInt (by omega), nI_toInt (by omega)] at c4_1
        have e8 : i = n := by omega
        refine lv_iload_n hx hb dX4_digits_29 rfl (lv_at hl 2 rfl) ?_
        subst hQ
        exact W.iret (v := (nI i)) hx hb hr (fun t ht hW => ⟨_, rfl, (by first | (rw [← e9, cnt_stop d1]) | (subst e8; rw [← e9, Nat.sub_self]; rfl)), ht⟩) (fun _ h => absurd h List.not_mem_nil) dX4_digits_30
      · skip
        rw [ti_le, nI_toInt (by omega), nI_toInt (by omega)] at c4_1
        refine lv_aload_n hx hb dX4_digits_7 rfl (lv_at hl 0 rfl) ?_
        refine lv_iload_n hx hb dX4_digits_8 rfl (lv_at hl 2 rfl) ?_
        refine va_iald hx hb hK hP 0 0 rfl rfl (i := (nI i)) (vp_in_nI (by omega) (by omega)) dX4_digits_9 ?_
        refine lv_topi (fun x3 ex3 => ?_)
        obtain rfl : x3 = f i := by rw [ex3, nI_clamp (by omega)]
        refine lv_bipush (v := 48) hx hb dX4_digits_10 (by decide) ?_
        refine lv_icmp_lt (tgt := 29) hx hb dX4_digits_12 (by decide) (fun c12_3 => ?_) (fun c12_3 => ?_)
        · skip
          have d1 := dgb_lt c12_3
          refine lv_iload_n hx hb dX4_digits_29 rfl (lv_at hl 2 rfl) ?_
          subst hQ
          exact W.iret (v := (nI i)) hx hb hr (fun t ht hW => ⟨_, rfl, (by first | (rw [← e9, cnt_stop d1]) | (subst e8; rw [← e9, Nat.sub_self]; rfl)), ht⟩) (fun _ h => absurd h List.not_mem_nil) dX4_digits_30
        · skip
          have d1 := c12_3
          refine lv_aload_n hx hb dX4_digits_15 rfl (lv_at hl 0 rfl) ?_
          refine lv_iload_n hx hb dX4_digits_16 rfl (lv_at hl 2 rfl) ?_
          refine va_iald hx hb hK hP 0 0 rfl rfl (i := (nI i)) (vp_in_nI (by omega) (by omega)) dX4_digits_17 ?_
          refine lv_topi (fun x5 ex5 => ?_)
          obtain rfl : x5 = f i := by rw [ex5, nI_clamp (by omega)]
          refine lv_bipush (v := 57) hx hb dX4_digits_18 (by decide) ?_
          refine lv_icmp_gt (tgt := 29) hx hb dX4_digits_20 (by decide) (fun c20_5 => ?_) (fun c20_5 => ?_)
          · skip
            have d1 := dgb_gt c20_5
            refine lv_iload_n hx hb dX4_digits_29 rfl (lv_at hl 2 rfl) ?_
            subst hQ
            exact W.iret (v := (nI i)) hx hb hr (fun t ht hW => ⟨_, rfl, (by first | (rw [← e9, cnt_stop d1]) | (subst e8; rw [← e9, Nat.sub_self]; rfl)), ht⟩) (fun _ h => absurd h List.not_mem_nil) dX4_digits_30
          · skip
            have d2 := c20_5
            refine lv_iinc (v := nI (i + 1)) (lv' := [(2, .int (nI (i + 1))), (0, .ref a), (1, .int (nI n))]) hx hb dX4_digits_23 hl (k := 2) rfl (nI_inc i) (by decide) rfl (fun ls hl => ?_)
            refine lv_goto (tgt := 2) hx hb dX4_digits_26 (by decide) ?_
            exact ih2 (i + 1) (by omega) ((cnt_step (p := fun j => dgb (f j)) (k := n - i) (i := i) (dgb_in d1 d2) (by omega)).symm.trans e9) (by omega) ls (lv_sub hl [1, 2, 0] rfl)
  exact loop2 (n + 1) 0 (Nat.zero_le _) rfl (by omega) ls (lv_sub hl [1, 2, 0] rfl)

abbrev rm_m_zeros : Room := { frames := 0, cells := 0, slots := 0, locals := 0 }
set_option maxHeartbeats 4000000 in
set_option maxRecDepth 100000 in
theorem m_zeros (l : Launch) (dC : Nat → ClassId) (dI : Nat → Nat → Nat) (a : Nat) (k : ClassId) (f : Nat → Int32) (n : Nat) (hn : n ≤ 100) : Met l yX4_zeros (.code yX4_zeros cX4_zeros 3 (some (.int)) :: wsA) rm_m_zeros (va_Pc [.ref a, .int (nI n)] (ro (dC, dI) [(a, .inl (k, 100, .inl f))] [(k, .int)])) (vp_Si (fun r => r = nI (zr f n))) 0 0 (fun _ => False) := by
  refine Met.ofW (cc := cX4_zeros) (maxL := 3) (ret := (some (.int))) (by decide) rfl ?_
  intro p e s m args below meth c s₁ B hml hv
  obtain ⟨hargs, hN, hP, hK⟩ := hv
  have hx := B.exec
  have hb := B.bytes
  have hr := B.returns
  have hw : ∀ w ∈ wsA, w.before args s = true := fun w h => atoms_spec (ws := (.code yX4_zeros cX4_zeros 3 (some (.int)) :: wsA)) B.pre w (List.mem_cons_of_mem _ h)
  have hown : s.vm.findClass "GlobDeskModel" = some m.cls := findClass_of_methodNamed B.named
  have hlocks := B.notSynchronized
  generalize hQ : MQ below _ args s _ _ _ = Q
  change W p l e rm_m_zeros s m args below meth c s.heap [] 0 0 Q (entryFrame m args 3)
  have hl := lv_entry ([.ref a, .int (nI n)]) (n := 3) (Nat.le_of_ble_eq_true rfl)
  rw [show entryFrame m args 3 = entryFrame m ([.ref a, .int (nI n)] : List Value).toArray 3 from by rw [hargs], lg_entry_eq]
  generalize (lg_sl ([.ref a, .int (nI n)]) ++ List.replicate (3 - (lg_sl ([.ref a, .int (nI n)])).length) Slot.unset).toArray = ls at hl ⊢
  have hl : lv_has ls 3 [(0, .ref a), (1, .int (nI n))] := hl
  refine lv_iconst (v := 0) hx hb dX4_zeros_0 (by decide) ?_
  refine lv_topi (fun x1 ex1 => ?_)
  obtain rfl : x1 = nI 0 := by rw [ex1]; exact nI_0.symm
  refine lv_istore_n (lv' := [(2, .int (nI 0)), (0, .ref a), (1, .int (nI n))]) hx hb dX4_zeros_1 rfl hl (by decide) rfl (fun ls hl => ?_)
  have loop2 : ∀ (nn2 : Nat) (i : Nat) (hi : i ≤ n) (e9 : cnt (fun j => decide (f j = 48)) (n - i) i = zr f n) (_ : n - i < nn2) (ls : Array Slot) (_ : lv_has ls 3 [(0, .ref a), (1, .int (nI n)), (2, .int (nI i))]), W p l e rm_m_zeros s m args below meth c s.heap [] 0 0 Q (F0 m 2 ls []) := by
    intro nn2
    induction nn2 with
    | zero => intro i hi e9 hm2 ls hl; exact absurd hm2 (Nat.not_lt_zero _)
    | succ nn2 ih2 =>
      intro i hi e9 hm2 ls hl
      refine lv_iload_n hx hb dX4_zeros_2 rfl (lv_at hl 2 rfl) ?_
      refine lv_iload_n hx hb dX4_zeros_3 rfl (lv_at hl 1 rfl) ?_
      refine lv_icmp_ge (tgt := 21) hx hb dX4_zeros_4 (by decide) (fun c4_1 => ?_) (fun c4_1 => ?_)
      · skip
        rw [ti_le, nI_toInt (by omega), nI_toInt (by omega)] at c4_1
        have e8 : i = n := by omega
        refine lv_iload_n hx hb dX4_zeros_21 rfl (lv_at hl 2 rfl) ?_
        subst hQ
        exact W.iret (v := (nI i)) hx hb hr (fun t ht hW => ⟨_, rfl, (by first | (rw [← e9, cnt_stop (decide_eq_false d1)]) | (subst e8; rw [← e9, Nat.sub_self]; rfl)), ht⟩) (fun _ h => absurd h List.not_mem_nil) dX4_zeros_22
      · skip
        rw [ti_le, nI_toInt (by omega), nI_toInt (by omega)] at c4_1
        refine lv_aload_n hx hb dX4_zeros_7 rfl (lv_at hl 0 rfl) ?_
        refine lv_iload_n hx hb dX4_zeros_8 rfl (lv_at hl 2 rfl) ?_
        refine va_iald hx hb hK hP 0 0 rfl rfl (i := (nI i)) (vp_in_nI (by omega) (by omega)) dX4_zeros_9 ?_
        refine lv_topi (fun x3 ex3 => ?_)
        obtain rfl : x3 = f i := by rw [ex3, nI_clamp (by omega)]
        refine lv_bipush (v := 48) hx hb dX4_zeros_10 (by decide) ?_
        refine lv_icmp_ne (tgt := 21) hx hb dX4_zeros_12 (by decide) (fun c12_3 => ?_) (fun c12_3 => ?_)
        · skip
          have d1 := c12_3
          refine lv_iload_n hx hb dX4_zeros_21 rfl (lv_at hl 2 rfl) ?_
          subst hQ
          exact W.iret (v := (nI i)) hx hb hr (fun t ht hW => ⟨_, rfl, (by first | (rw [← e9, cnt_stop (decide_eq_false d1)]) | (subst e8; rw [← e9, Nat.sub_self]; rfl)), ht⟩) (fun _ h => absurd h List.not_mem_nil) dX4_zeros_22
        · skip
          have d1 := c12_3
          refine lv_iinc (v := nI (i + 1)) (lv' := [(2, .int (nI (i + 1))), (0, .ref a), (1, .int (nI n))]) hx hb dX4_zeros_15 hl (k := 2) rfl (nI_inc i) (by decide) rfl (fun ls hl => ?_)
          refine lv_goto (tgt := 2) hx hb dX4_zeros_18 (by decide) ?_
          exact ih2 (i + 1) (by omega) ((cnt_step (p := fun j => decide (f j = 48)) (k := n - i) (i := i) (decide_eq_true (by first | exact d1 | exact Decidable.not_not.mp d1)) (by omega)).symm.trans e9) (by omega) ls (lv_sub hl [1, 2, 0] rfl)
  exact loop2 (n + 1) 0 (Nat.zero_le _) rfl (by omega) ls (lv_sub hl [1, 2, 0] rfl)

abbrev rm_m_byN : Room := { frames := 1, cells := 0, slots := 0, locals := 22 }
set_option maxHeartbeats 4000000 in
set_option maxRecDepth 100000 in
theorem m_byN (l : Launch) (dC : Nat → ClassId) (dI : Nat → Nat → Nat) (mo mv mk ms ml mc mf mn : Nat) (jv jk js jl jc jf jn : ClassId) (fv fk gs gl gc gf gn : Nat → Int32) (nv nk sn ct : Nat) (th : Int32) (hv : nv ≤ 100) (hk : nk ≤ 100) : Met l yX4_byNumbers (.code yX4_byNumbers cX4_byNumbers 5 (some (.int)) :: wsA) rm_m_byN (va_Pc [.ref mo] (ro (dC, dI) [(mo, .inr (4, [.int (th), .ref mv, .ref mk, .int (nI nv), .int (nI nk), .int (nI sn), .ref ms, .ref ml, .ref mc, .int (nI ct), .ref mf, .ref mn])), (mv, .inl (jv, 100, .inl fv)), (mk, .inl (jk, 100, .inl fk)), (ms, .inl (js, 100, .inl gs)), (ml, .inl (jl, 100, .inl gl)), (mc, .inl (jc, 10201, .inl gc)), (mf, .inl (jf, 100, .inl gf)), (mn, .inl (jn, 100, .inl gn))] [(jv, .int), (jk, .int), (js, .int), (jl, .int), (jc, .boolean), (jf, .int), (jn, .int)])) (vp_Si (fun r => r = snF fv fk nv nk)) 0 0 (fun _ => False) := by
  refine Met.ofW (cc := cX4_byNumbers) (maxL := 5) (ret := (some (.int))) (by decide) rfl ?_
  intro p e s m args below meth c s₁ B hml hv
  obtain ⟨hargs, hN, hP, hK⟩ := hv
  have hx := B.exec
  have hb := B.bytes
  have hr := B.returns
  have hw : ∀ w ∈ wsA, w.before args s = true := fun w h => atoms_spec (ws := (.code yX4_byNumbers cX4_byNumbers 5 (some (.int)) :: wsA)) B.pre w (List.mem_cons_of_mem _ h)
  have hown : s.vm.findClass "GlobDeskModel" = some m.cls := findClass_of_methodNamed B.named
  have hlocks := B.notSynchronized
  generalize hQ : MQ below _ args s _ _ _ = Q
  change W p l e rm_m_byN s m args below meth c s.heap [] 0 0 Q (entryFrame m args 5)
  have hl := lv_entry ([.ref mo]) (n := 5) (Nat.le_of_ble_eq_true rfl)
  rw [show entryFrame m args 5 = entryFrame m ([.ref mo] : List Value).toArray 5 from by rw [hargs], lg_entry_eq]
  generalize (lg_sl ([.ref mo]) ++ List.replicate (5 - (lg_sl ([.ref mo])).length) Slot.unset).toArray = ls at hl ⊢
  have hl : lv_has ls 5 [(0, .ref mo)] := hl
  have hdv := dg_le fv nv
  have hdk := dg_le fk nk
  have hzv := zr_le fv (dg fv nv)
  have hzk := zr_le fk (dg fk nk)
  refine lv_aload_n hx hb dX4_byNumbers_0 rfl (lv_at hl 0 rfl) ?_
  refine va_get (D := (dC, dI)) (ci := 4) (v := .ref mv) (C := RX4) (T := TX4) (N := 12) hx hb hw inX4 hown hK hP 0 rfl rfl 1 (by decide) (hw _ mw245) (fun _ h9 => h9) rfl dX4_byNumbers_1 ?_
  refine lv_aload_n hx hb dX4_byNumbers_4 rfl (lv_at hl 0 rfl) ?_
  refine va_get (D := (dC, dI)) (ci := 4) (v := .int (nI nv)) (C := RX4) (T := TX4) (N := 12) hx hb hw inX4 hown hK hP 0 rfl rfl 3 (by decide) (hw _ mw247) (fun _ h9 => h9) rfl dX4_byNumbers_5 ?_
  refine vp_callSi (va_Run.run (va_runS (As := [.ref mv, .int (nI nv)]) (rest := []) ⟨hx, hb, hml, hown, hw⟩ (m_digits l dC dI mv jv fv nv (by omega)) (cwS 2 hw (gS mw302 mw303 mw20 mw304) rfl rfl rfl (by decide +kernel) ⟨Nat.le_of_ble_eq_true rfl, Nat.le_of_ble_eq_true rfl⟩) (ro.S hN (hK.sub (tys' := [(jv, .int)]) [0] rfl) (hP.sub (ws' := [(mv, .inl (jv, 100, .inl fv))]) [1] rfl)) rfl rfl hl.1 rfl (lv_room (Nat.le_of_ble_eq_true rfl)) dX4_byNumbers_8 ⟨Nat.le_of_ble_eq_true rfl, Nat.le_of_ble_eq_true rfl⟩)) (fun r1 hr1 => ?_)
  subst hr1
  refine lv_istore_n (lv' := [(1, .int (nI (dg fv nv))), (0, .ref mo)]) hx hb dX4_byNumbers_11 rfl hl (by decide) rfl (fun ls hl => ?_)
  refine lv_aload_n hx hb dX4_byNumbers_12 rfl (lv_at hl 1 rfl) ?_
  refine va_get (D := (dC, dI)) (ci := 4) (v := .ref mk) (C := RX4) (T := TX4) (N := 12) hx hb hw inX4 hown hK hP 0 rfl rfl 2 (by decide) (hw _ mw246) (fun _ h9 => h9) rfl dX4_byNumbers_13 ?_
  refine lv_aload_n hx hb dX4_byNumbers_16 rfl (lv_at hl 1 rfl) ?_
  refine va_get (D := (dC, dI)) (ci := 4) (v := .int (nI nk)) (C := RX4) (T := TX4) (N := 12) hx hb hw inX4 hown hK hP 0 rfl rfl 4 (by decide) (hw _ mw248) (fun _ h9 => h9) rfl dX4_byNumbers_17 ?_
  refine vp_callSi (va_Run.run (va_runS (As := [.ref mk, .int (nI nk)]) (rest := []) ⟨hx, hb, hml, hown, hw⟩ (m_digits l dC dI mk jk fk nk (by omega)) (cwS 2 hw (gS mw302 mw303 mw20 mw304) rfl rfl rfl (by decide +kernel) ⟨Nat.le_of_ble_eq_true rfl, Nat.le_of_ble_eq_true rfl⟩) (ro.S hN (hK.sub (tys' := [(jk, .int)]) [1] rfl) (hP.sub (ws' := [(mk, .inl (jk, 100, .inl fk))]) [2] rfl)) rfl rfl hl.1 rfl (lv_room (Nat.le_of_ble_eq_true rfl)) dX4_byNumbers_20 ⟨Nat.le_of_ble_eq_true rfl, Nat.le_of_ble_eq_true rfl⟩)) (fun r2 hr2 => ?_)
  subst hr2
  refine lv_istore_n (lv' := [(2, .int (nI (dg fk nk))), (1, .int (nI (dg fv nv))), (0, .ref mo)]) hx hb dX4_byNumbers_23 rfl hl (by decide) rfl (fun ls hl => ?_)
  refine lv_iload_n hx hb dX4_byNumbers_24 rfl (lv_at hl 1 rfl) ?_
  refine lv_if_eq (tgt := 32) hx hb dX4_byNumbers_25 (by decide) (fun c25_2 => ?_) (fun c25_2 => ?_)
  · skip
    have za : dg fv nv = 0 := by rw [ti_eq, nI_toInt (by omega), tc_0] at c25_2; omega
    refine lv_iload_n hx hb dX4_byNumbers_32 rfl (lv_at hl 1 rfl) ?_
    refine lv_iload_n hx hb dX4_byNumbers_33 rfl (lv_at hl 0 rfl) ?_
    refine lv_icmp_ne (tgt := 41) hx hb dX4_byNumbers_34 (by decide) (fun c34_3 => ?_) (fun c34_3 => ?_)
    · skip
      have zq : ¬ dg fv nv = dg fk nk := fun q => c34_3 (by rw [q])
      refine lv_iload_n hx hb dX4_byNumbers_41 rfl (lv_at hl 1 rfl) ?_
      refine lv_if_ne (tgt := 49) hx hb dX4_byNumbers_42 (by decide) (fun c42_4 => ?_) (fun c42_4 => ?_)
      · skip
        exact absurd (by rw [ti_eq, nI_toInt (by omega), tc_0]; omega) c42_4
      · skip
        have za : dg fv nv = 0 := by rw [ti_eq, nI_toInt (by omega), tc_0] at c42_4; omega
        refine lv_iconst (v := 1) hx hb dX4_byNumbers_45 (by decide) ?_
        refine lv_goto (tgt := 50) hx hb dX4_byNumbers_46 (by decide) ?_
        subst hQ
        exact W.iret (v := 1) hx hb hr (fun t ht hW => ⟨_, rfl, (by rw [snF_0 (by omega)]; first | (rw [if_pos zq]; done) | (rw [if_neg zq, if_pos (by omega)]; done) | (rw [if_neg zq, if_neg (by omega)]; done)), ht⟩) (fun _ h => absurd h List.not_mem_nil) dX4_byNumbers_50
    · skip
      have zq : dg fv nv = dg fk nk := (nI_eq (by omega) (by omega)).mp (by first | exact c34_3 | exact Decidable.not_not.mp c34_3)
      refine lv_iconst (v := 0) hx hb dX4_byNumbers_37 (by decide) ?_
      refine lv_goto (tgt := 50) hx hb dX4_byNumbers_38 (by decide) ?_
      subst hQ
      exact W.iret (v := 0) hx hb hr (fun t ht hW => ⟨_, rfl, (by rw [snF_0 (by omega)]; first | (rw [if_pos zq]; done) | (rw [if_neg zq, if_pos (by omega)]; done) | (rw [if_neg zq, if_neg (by omega)]; done)), ht⟩) (fun _ h => absurd h List.not_mem_nil) dX4_byNumbers_50
  · skip
    have za : ¬ dg fv nv = 0 := by rw [ti_eq, nI_toInt (by omega), tc_0] at c25_2; omega
    refine lv_iload_n hx hb dX4_byNumbers_28 rfl (lv_at hl 0 rfl) ?_
    refine lv_if_ne (tgt := 51) hx hb dX4_byNumbers_29 (by decide) (fun c29_5 => ?_) (fun c29_5 => ?_)
    · skip
      have zb : ¬ dg fk nk = 0 := by rw [ti_eq, nI_toInt (by omega), tc_0] at c29_5; omega
      refine lv_aload_n hx hb dX4_byNumbers_51 rfl (lv_at hl 2 rfl) ?_
      refine va_get (D := (dC, dI)) (ci := 4) (v := .ref mv) (C := RX4) (T := TX4) (N := 12) hx hb hw inX4 hown hK hP 0 rfl rfl 1 (by decide) (hw _ mw245) (fun _ h9 => h9) rfl dX4_byNumbers_52 ?_
      refine lv_iload_n hx hb dX4_byNumbers_55 rfl (lv_at hl 1 rfl) ?_
      refine vp_callSi (va_Run.run (va_runS (As := [.ref mv, .int (nI (dg fv nv))]) (rest := []) ⟨hx, hb, hml, hown, hw⟩ (m_zeros l dC dI mv jv fv (dg fv nv) (by omega)) (cwS 2 hw (gS mw305 mw306 mw20 mw307) rfl rfl rfl (by decide +kernel) ⟨Nat.le_of_ble_eq_true rfl, Nat.le_of_ble_eq_true rfl⟩) (ro.S hN (hK.sub (tys' := [(jv, .int)]) [0] rfl) (hP.sub (ws' := [(mv, .inl (jv, 100, .inl fv))]) [1] rfl)) rfl rfl hl.1 rfl (lv_room (Nat.le_of_ble_eq_true rfl)) dX4_byNumbers_56 ⟨Nat.le_of_ble_eq_true rfl, Nat.le_of_ble_eq_true rfl⟩)) (fun r7 hr7 => ?_)
      subst hr7
      refine lv_istore_n (lv' := [(3, .int (nI (zr fv (dg fv nv)))), (2, .int (nI (dg fk nk))), (1, .int (nI (dg fv nv))), (0, .ref mo)]) hx hb dX4_byNumbers_59 rfl hl (by decide) rfl (fun ls hl => ?_)
      refine lv_aload_n hx hb dX4_byNumbers_60 rfl (lv_at hl 3 rfl) ?_
      refine va_get (D := (dC, dI)) (ci := 4) (v := .ref mk) (C := RX4) (T := TX4) (N := 12) hx hb hw inX4 hown hK hP 0 rfl rfl 2 (by decide) (hw _ mw246) (fun _ h9 => h9) rfl dX4_byNumbers_61 ?_
      refine lv_iload_n hx hb dX4_byNumbers_64 rfl (lv_at hl 1 rfl) ?_
      refine vp_callSi (va_Run.run (va_runS (As := [.ref mk, .int (nI (dg fk nk))]) (rest := []) ⟨hx, hb, hml, hown, hw⟩ (m_zeros l dC dI mk jk fk (dg fk nk) (by omega)) (cwS 2 hw (gS mw305 mw306 mw20 mw307) rfl rfl rfl (by decide +kernel) ⟨Nat.le_of_ble_eq_true rfl, Nat.le_of_ble_eq_true rfl⟩) (ro.S hN (hK.sub (tys' := [(jk, .int)]) [1] rfl) (hP.sub (ws' := [(mk, .inl (jk, 100, .inl fk))]) [2] rfl)) rfl rfl hl.1 rfl (lv_room (Nat.le_of_ble_eq_true rfl)) dX4_byNumbers_65 ⟨Nat.le_of_ble_eq_true rfl, Nat.le_of_ble_eq_true rfl⟩)) (fun r8 hr8 => ?_)
      subst hr8
      refine lv_istore (lv' := [(4, .int (nI (zr fk (dg fk nk)))), (3, .int (nI (zr fv (dg fv nv)))), (2, .int (nI (dg fk nk))), (1, .int (nI (dg fv nv))), (0, .ref mo)]) hx hb dX4_byNumbers_68 hl (by decide) rfl (fun ls hl => ?_)
      refine lv_iload_n hx hb dX4_byNumbers_70 rfl (lv_at hl 3 rfl) ?_
      refine lv_iload_n hx hb dX4_byNumbers_71 rfl (lv_at hl 1 rfl) ?_
      refine lv_isub hx hb dX4_byNumbers_72 ?_
      refine lv_topi (fun x9 ex9 => ?_)
      obtain rfl : x9 = nI (dg fv nv - zr fv (dg fv nv)) := by rw [ex9, pk_sub hzv]
      refine lv_iload_n hx hb dX4_byNumbers_73 rfl (lv_at hl 2 rfl) ?_
      refine lv_iload hx hb dX4_byNumbers_74 (lv_at hl 0 rfl) ?_
      refine lv_isub hx hb dX4_byNumbers_76 ?_
      refine lv_topi (fun x10 ex10 => ?_)
      obtain rfl : x10 = nI (dg fk nk - zr fk (dg fk nk)) := by rw [ex10, pk_sub hzk]
      refine lv_icmp_eq (tgt := 96) hx hb dX4_byNumbers_77 (by decide) (fun c77_10 => ?_) (fun c77_10 => ?_)
      · skip
        have zs := c77_10
        have loop96 : ∀ (nn96 : Nat) (i : Nat) (hi : i ≤ dg fv nv - zr fv (dg fv nv)) (e9 : snA fv fk (dg fv nv - zr fv (dg fv nv) - i) (zr fv (dg fv nv) + i) (zr fk (dg fk nk) + i) = snF fv fk nv nk) (_ : dg fv nv - i < nn96) (ls : Array Slot) (_ : lv_has ls 5 [(0, .ref mo), (1, .int (nI (dg fv nv))), (3, .int (nI (zr fv (dg fv nv) + i))), (4, .int (nI (zr fk (dg fk nk) + i)))]), W p l e rm_m_byN s m args below meth c s.heap [] 0 0 Q (F0 m 96 ls []) := by
          intro nn96
          induction nn96 with
          | zero => intro i hi e9 hm96 ls hl; exact absurd hm96 (Nat.not_lt_zero _)
          | succ nn96 ih96 =>
            intro i hi e9 hm96 ls hl
            have zs2 := (nI_eq (by omega) (by omega)).mp zs
            refine lv_iload_n hx hb dX4_byNumbers_96 rfl (lv_at hl 2 rfl) ?_
            refine lv_iload_n hx hb dX4_byNumbers_97 rfl (lv_at hl 1 rfl) ?_
            refine lv_icmp_ge (tgt := 148) hx hb dX4_byNumbers_98 (by decide) (fun c98_11 => ?_) (fun c98_11 => ?_)
            · skip
              rw [ti_le, nI_toInt (by omega), nI_toInt (by omega)] at c98_11
              have e8 : dg fv nv - zr fv (dg fv nv) - i = 0 := by omega
              refine lv_iconst (v := 0) hx hb dX4_byNumbers_148 (by decide) ?_
              subst hQ
              exact W.iret (v := 0) hx hb hr (fun t ht hW => ⟨_, rfl, (by rw [← e9, e8]; rfl), ht⟩) (fun _ h => absurd h List.not_mem_nil) dX4_byNumbers_149
            · skip
              rw [ti_le, nI_toInt (by omega), nI_toInt (by omega)] at c98_11
              refine lv_aload_n hx hb dX4_byNumbers_101 rfl (lv_at hl 0 rfl) ?_
              refine va_get (D := (dC, dI)) (ci := 4) (v := .ref mv) (C := RX4) (T := TX4) (N := 12) hx hb hw inX4 hown hK hP 0 rfl rfl 1 (by decide) (hw _ mw245) (fun _ h9 => h9) rfl dX4_byNumbers_102 ?_
              refine lv_iload_n hx hb dX4_byNumbers_105 rfl (lv_at hl 2 rfl) ?_
              refine va_iald hx hb hK hP 1 0 rfl rfl (i := (nI (zr fv (dg fv nv) + i))) (vp_in_nI (by omega) (by omega)) dX4_byNumbers_106 ?_
              refine lv_topi (fun x13 ex13 => ?_)
              obtain rfl : x13 = fv (zr fv (dg fv nv) + i) := by rw [ex13, nI_clamp (by omega)]
              refine lv_aload_n hx hb dX4_byNumbers_107 rfl (lv_at hl 0 rfl) ?_
              refine va_get (D := (dC, dI)) (ci := 4) (v := .ref mk) (C := RX4) (T := TX4) (N := 12) hx hb hw inX4 hown hK hP 0 rfl rfl 2 (by decide) (hw _ mw246) (fun _ h9 => h9) rfl dX4_byNumbers_108 ?_
              refine lv_iload hx hb dX4_byNumbers_111 (lv_at hl 3 rfl) ?_
              refine va_iald hx hb hK hP 2 1 rfl rfl (i := (nI (zr fk (dg fk nk) + i))) (vp_in_nI (by omega) (by omega)) dX4_byNumbers_113 ?_
              refine lv_topi (fun x14 ex14 => ?_)
              obtain rfl : x14 = fk (zr fk (dg fk nk) + i) := by rw [ex14, nI_clamp (by omega)]
              refine lv_icmp_eq (tgt := 139) hx hb dX4_byNumbers_114 (by decide) (fun c114_14 => ?_) (fun c114_14 => ?_)
              · skip
                have d1 := sg_0.mpr c114_14
                refine lv_iinc (v := nI (zr fv (dg fv nv) + (i + 1))) (lv' := [(3, .int (nI (zr fv (dg fv nv) + (i + 1)))), (0, .ref mo), (1, .int (nI (dg fv nv))), (4, .int (nI (zr fk (dg fk nk) + i)))]) hx hb dX4_byNumbers_139 hl (k := 2) rfl (nI_inc (zr fv (dg fv nv) + i)) (by decide) rfl (fun ls hl => ?_)
                refine lv_iinc (v := nI (zr fk (dg fk nk) + (i + 1))) (lv' := [(4, .int (nI (zr fk (dg fk nk) + (i + 1)))), (3, .int (nI (zr fv (dg fv nv) + (i + 1)))), (0, .ref mo), (1, .int (nI (dg fv nv)))]) hx hb dX4_byNumbers_142 hl (k := 3) rfl (nI_inc (zr fk (dg fk nk) + i)) (by decide) rfl (fun ls hl => ?_)
                refine lv_goto (tgt := 96) hx hb dX4_byNumbers_145 (by decide) ?_
                exact ih96 (i + 1) (by omega) ((snA_next (r := dg fv nv - zr fv (dg fv nv) - i) (by omega) d1).symm.trans e9) (by omega) ls (lv_sub hl [2, 3, 1, 0] rfl)
              · skip
                have d1 := c114_14
                refine lv_aload_n hx hb dX4_byNumbers_117 rfl (lv_at hl 0 rfl) ?_
                refine va_get (D := (dC, dI)) (ci := 4) (v := .ref mv) (C := RX4) (T := TX4) (N := 12) hx hb hw inX4 hown hK hP 0 rfl rfl 1 (by decide) (hw _ mw245) (fun _ h9 => h9) rfl dX4_byNumbers_118 ?_
                refine lv_iload_n hx hb dX4_byNumbers_121 rfl (lv_at hl 2 rfl) ?_
                refine va_iald hx hb hK hP 1 0 rfl rfl (i := (nI (zr fv (dg fv nv) + i))) (vp_in_nI (by omega) (by omega)) dX4_byNumbers_122 ?_
                refine lv_topi (fun x16 ex16 => ?_)
                obtain rfl : x16 = fv (zr fv (dg fv nv) + i) := by rw [ex16, nI_clamp (by omega)]
                refine lv_aload_n hx hb dX4_byNumbers_123 rfl (lv_at hl 0 rfl) ?_
                refine va_get (D := (dC, dI)) (ci := 4) (v := .ref mk) (C := RX4) (T := TX4) (N := 12) hx hb hw inX4 hown hK hP 0 rfl rfl 2 (by decide) (hw _ mw246) (fun _ h9 => h9) rfl dX4_byNumbers_124 ?_
                refine lv_iload hx hb dX4_byNumbers_127 (lv_at hl 3 rfl) ?_
                refine va_iald hx hb hK hP 2 1 rfl rfl (i := (nI (zr fk (dg fk nk) + i))) (vp_in_nI (by omega) (by omega)) dX4_byNumbers_129 ?_
                refine lv_topi (fun x17 ex17 => ?_)
                obtain rfl : x17 = fk (zr fk (dg fk nk) + i) := by rw [ex17, nI_clamp (by omega)]
                refine lv_icmp_ge (tgt := 137) hx hb dX4_byNumbers_130 (by decide) (fun c130_17 => ?_) (fun c130_17 => ?_)
                · skip
                  have d2 := c130_17
                  refine lv_iconst (v := 1) hx hb dX4_byNumbers_137 (by decide) ?_
                  subst hQ
                  exact W.iret (v := 1) hx hb hr (fun t ht hW => ⟨_, rfl, (by rw [← e9, snA_hit (by omega) (fun q => d1 (sg_0.mp q))]; first | exact (sg_lt1 d2).symm | exact (sg_n1 d2 d1).symm), ht⟩) (fun _ h => absurd h List.not_mem_nil) dX4_byNumbers_138
                · skip
                  have d2 := c130_17
                  refine lv_iconst (v := -1) hx hb dX4_byNumbers_133 (by decide) ?_
                  refine lv_goto (tgt := 138) hx hb dX4_byNumbers_134 (by decide) ?_
                  subst hQ
                  exact W.iret (v := (-1)) hx hb hr (fun t ht hW => ⟨_, rfl, (by rw [← e9, snA_hit (by omega) (fun q => d1 (sg_0.mp q))]; first | exact (sg_lt1 d2).symm | exact (sg_n1 d2 d1).symm), ht⟩) (fun _ h => absurd h List.not_mem_nil) dX4_byNumbers_138
        exact loop96 (dg fv nv + 1) 0 (Nat.zero_le _) (by rw [snF_eq (by omega) zs]; rfl) (by omega) ls (lv_sub hl [4, 3, 1, 0] rfl)
      · skip
        have zs := c77_10
        refine lv_iload_n hx hb dX4_byNumbers_80 rfl (lv_at hl 3 rfl) ?_
        refine lv_iload_n hx hb dX4_byNumbers_81 rfl (lv_at hl 1 rfl) ?_
        refine lv_isub hx hb dX4_byNumbers_82 ?_
        refine lv_topi (fun x19 ex19 => ?_)
        obtain rfl : x19 = nI (dg fv nv - zr fv (dg fv nv)) := by rw [ex19, pk_sub hzv]
        refine lv_iload_n hx hb dX4_byNumbers_83 rfl (lv_at hl 2 rfl) ?_
        refine lv_iload hx hb dX4_byNumbers_84 (lv_at hl 0 rfl) ?_
        refine lv_isub hx hb dX4_byNumbers_86 ?_
        refine lv_topi (fun x20 ex20 => ?_)
        obtain rfl : x20 = nI (dg fk nk - zr fk (dg fk nk)) := by rw [ex20, pk_sub hzk]
        refine lv_icmp_ge (tgt := 94) hx hb dX4_byNumbers_87 (by decide) (fun c87_20 => ?_) (fun c87_20 => ?_)
        · skip
          have zt := c87_20
          refine lv_iconst (v := 1) hx hb dX4_byNumbers_94 (by decide) ?_
          subst hQ
          exact W.iret (v := 1) hx hb hr (fun t ht hW => ⟨_, rfl, (by rw [snF_ne (by omega) zs]; first | exact (sg_lt1 zt).symm | exact (sg_n1 zt zs).symm), ht⟩) (fun _ h => absurd h List.not_mem_nil) dX4_byNumbers_95
        · skip
          have zt := c87_20
          refine lv_iconst (v := -1) hx hb dX4_byNumbers_90 (by decide) ?_
          refine lv_goto (tgt := 95) hx hb dX4_byNumbers_91 (by decide) ?_
          subst hQ
          exact W.iret (v := (-1)) hx hb hr (fun t ht hW => ⟨_, rfl, (by rw [snF_ne (by omega) zs]; first | exact (sg_lt1 zt).symm | exact (sg_n1 zt zs).symm), ht⟩) (fun _ h => absurd h List.not_mem_nil) dX4_byNumbers_95
    · skip
      have zb : dg fk nk = 0 := by rw [ti_eq, nI_toInt (by omega), tc_0] at c29_5; omega
      refine lv_iload_n hx hb dX4_byNumbers_32 rfl (lv_at hl 1 rfl) ?_
      refine lv_iload_n hx hb dX4_byNumbers_33 rfl (lv_at hl 0 rfl) ?_
      refine lv_icmp_ne (tgt := 41) hx hb dX4_byNumbers_34 (by decide) (fun c34_21 => ?_) (fun c34_21 => ?_)
      · skip
        have zq : ¬ dg fv nv = dg fk nk := fun q => c34_21 (by rw [q])
        refine lv_iload_n hx hb dX4_byNumbers_41 rfl (lv_at hl 1 rfl) ?_
        refine lv_if_ne (tgt := 49) hx hb dX4_byNumbers_42 (by decide) (fun c42_22 => ?_) (fun c42_22 => ?_)
        · skip
          have za : ¬ dg fv nv = 0 := by rw [ti_eq, nI_toInt (by omega), tc_0] at c42_22; omega
          refine lv_iconst (v := -1) hx hb dX4_byNumbers_49 (by decide) ?_
          subst hQ
          exact W.iret (v := (-1)) hx hb hr (fun t ht hW => ⟨_, rfl, (by rw [snF_0 (by omega)]; first | (rw [if_pos zq]; done) | (rw [if_neg zq, if_pos (by omega)]; done) | (rw [if_neg zq, if_neg (by omega)]; done)), ht⟩) (fun _ h => absurd h List.not_mem_nil) dX4_byNumbers_50
        · skip
          exact absurd c42_22 (by rw [ti_eq, nI_toInt (by omega), tc_0]; omega)
      · skip
        have zq : dg fv nv = dg fk nk := (nI_eq (by omega) (by omega)).mp (by first | exact c34_21 | exact Decidable.not_not.mp c34_21)
        refine lv_iconst (v := 0) hx hb dX4_byNumbers_37 (by decide) ?_
        refine lv_goto (tgt := 50) hx hb dX4_byNumbers_38 (by decide) ?_
        subst hQ
        exact W.iret (v := 0) hx hb hr (fun t ht hW => ⟨_, rfl, (by rw [snF_0 (by omega)]; first | (rw [if_pos zq]; done) | (rw [if_neg zq, if_pos (by omega)]; done) | (rw [if_neg zq, if_neg (by omega)]; done)), ht⟩) (fun _ h => absurd h List.not_mem_nil) dX4_byNumbers_50

abbrev rm_m_cmp : Room := { frames := 2, cells := 0, slots := 0, locals := 46 }
set_option maxHeartbeats 4000000 in
set_option maxRecDepth 100000 in
theorem m_cmp (l : Launch) (dC : Nat → ClassId) (dI : Nat → Nat → Nat) (mo mv mk ms ml mc mf mn : Nat) (jv jk js jl jc jf jn : ClassId) (fv fk gs gl gc gf gn : Nat → Int32) (nv nk sn ct : Nat) (th : Int32) (hv : nv ≤ 100) (hk : nk ≤ 100) (cp : Int32) : Met l yX4_compare (.code yX4_compare cX4_compare 5 (some (.int)) :: wsA) rm_m_cmp (va_Pc [.ref mo, .int (cp)] (ro (dC, dI) [(mo, .inr (4, [.int (th), .ref mv, .ref mk, .int (nI nv), .int (nI nk), .int (nI sn), .ref ms, .ref ml, .ref mc, .int (nI ct), .ref mf, .ref mn])), (mv, .inl (jv, 100, .inl fv)), (mk, .inl (jk, 100, .inl fk)), (ms, .inl (js, 100, .inl gs)), (ml, .inl (jl, 100, .inl gl)), (mc, .inl (jc, 10201, .inl gc)), (mf, .inl (jf, 100, .inl gf)), (mn, .inl (jn, 100, .inl gn))] [(jv, .int), (jk, .int), (js, .int), (jl, .int), (jc, .boolean), (jf, .int), (jn, .int)])) (vp_Si (fun r => r = stF fv fk nv nk cp)) 0 0 (fun _ => False) := by
  refine Met.ofW (cc := cX4_compare) (maxL := 5) (ret := (some (.int))) (by decide) rfl ?_
  intro p e s m args below meth c s₁ B hml hv
  obtain ⟨hargs, hN, hP, hK⟩ := hv
  have hx := B.exec
  have hb := B.bytes
  have hr := B.returns
  have hw : ∀ w ∈ wsA, w.before args s = true := fun w h => atoms_spec (ws := (.code yX4_compare cX4_compare 5 (some (.int)) :: wsA)) B.pre w (List.mem_cons_of_mem _ h)
  have hown : s.vm.findClass "GlobDeskModel" = some m.cls := findClass_of_methodNamed B.named
  have hlocks := B.notSynchronized
  generalize hQ : MQ below _ args s _ _ _ = Q
  change W p l e rm_m_cmp s m args below meth c s.heap [] 0 0 Q (entryFrame m args 5)
  have hl := lv_entry ([.ref mo, .int (cp)]) (n := 5) (Nat.le_of_ble_eq_true rfl)
  rw [show entryFrame m args 5 = entryFrame m ([.ref mo, .int (cp)] : List Value).toArray 5 from by rw [hargs], lg_entry_eq]
  generalize (lg_sl ([.ref mo, .int (cp)]) ++ List.replicate (5 - (lg_sl ([.ref mo, .int (cp)])).length) Slot.unset).toArray = ls at hl ⊢
  have hl : lv_has ls 5 [(0, .ref mo), (1, .int (cp))] := hl
  refine lv_iload_n hx hb dX4_compare_0 rfl (lv_at hl 1 rfl) ?_
  refine lv_iconst (v := 2) hx hb dX4_compare_1 (by decide) ?_
  refine lv_icmp_ne (tgt := 10) hx hb dX4_compare_2 (by decide) (fun c2_0 => ?_) (fun c2_0 => ?_)
  · skip
    have z0 := c2_0
    refine lv_iconst (v := 0) hx hb dX4_compare_10 (by decide) ?_
    refine lv_topi (fun x2 ex2 => ?_)
    obtain rfl : x2 = nI 0 := by rw [ex2]; exact nI_0.symm
    refine lv_istore_n (lv' := [(2, .int (nI 0)), (0, .ref mo), (1, .int (cp))]) hx hb dX4_compare_11 rfl hl (by decide) rfl (fun ls hl => ?_)
    have loop12 : ∀ (nn12 : Nat) (i : Nat) (hi : i ≤ min nv nk) (e9 : sbA fv fk nv nk cp (min nv nk - i) i = stF fv fk nv nk cp) (_ : min nv nk - i < nn12) (ls : Array Slot) (_ : lv_has ls 5 [(0, .ref mo), (1, .int (cp)), (2, .int (nI i))]), W p l e rm_m_cmp s m args below meth c s.heap [] 0 0 Q (F0 m 12 ls []) := by
      intro nn12
      induction nn12 with
      | zero => intro i hi e9 hm12 ls hl; exact absurd hm12 (Nat.not_lt_zero _)
      | succ nn12 ih12 =>
        intro i hi e9 hm12 ls hl
        refine lv_iload_n hx hb dX4_compare_12 rfl (lv_at hl 2 rfl) ?_
        refine lv_aload_n hx hb dX4_compare_13 rfl (lv_at hl 0 rfl) ?_
        refine va_get (D := (dC, dI)) (ci := 4) (v := .int (nI nv)) (C := RX4) (T := TX4) (N := 12) hx hb hw inX4 hown hK hP 0 rfl rfl 3 (by decide) (hw _ mw247) (fun _ h9 => h9) rfl dX4_compare_14 ?_
        refine lv_icmp_ge (tgt := 75) hx hb dX4_compare_17 (by decide) (fun c17_2 => ?_) (fun c17_2 => ?_)
        · skip
          rw [ti_le, nI_toInt (by omega), nI_toInt (by omega)] at c17_2
          have e8 : min nv nk - i = 0 := by omega
          refine lv_aload_n hx hb dX4_compare_75 rfl (lv_at hl 0 rfl) ?_
          refine va_get (D := (dC, dI)) (ci := 4) (v := .int (nI nv)) (C := RX4) (T := TX4) (N := 12) hx hb hw inX4 hown hK hP 0 rfl rfl 3 (by decide) (hw _ mw247) (fun _ h9 => h9) rfl dX4_compare_76 ?_
          refine lv_aload_n hx hb dX4_compare_79 rfl (lv_at hl 0 rfl) ?_
          refine va_get (D := (dC, dI)) (ci := 4) (v := .int (nI nk)) (C := RX4) (T := TX4) (N := 12) hx hb hw inX4 hown hK hP 0 rfl rfl 4 (by decide) (hw _ mw248) (fun _ h9 => h9) rfl dX4_compare_80 ?_
          refine lv_icmp_ge (tgt := 90) hx hb dX4_compare_83 (by decide) (fun c83_3 => ?_) (fun c83_3 => ?_)
          · skip
            have d3 := c83_3
            refine lv_aload_n hx hb dX4_compare_90 rfl (lv_at hl 0 rfl) ?_
            refine va_get (D := (dC, dI)) (ci := 4) (v := .int (nI nv)) (C := RX4) (T := TX4) (N := 12) hx hb hw inX4 hown hK hP 0 rfl rfl 3 (by decide) (hw _ mw247) (fun _ h9 => h9) rfl dX4_compare_91 ?_
            refine lv_aload_n hx hb dX4_compare_94 rfl (lv_at hl 0 rfl) ?_
            refine va_get (D := (dC, dI)) (ci := 4) (v := .int (nI nk)) (C := RX4) (T := TX4) (N := 12) hx hb hw inX4 hown hK hP 0 rfl rfl 4 (by decide) (hw _ mw248) (fun _ h9 => h9) rfl dX4_compare_95 ?_
            refine lv_icmp_le (tgt := 105) hx hb dX4_compare_98 (by decide) (fun c98_4 => ?_) (fun c98_4 => ?_)
            · skip
              have d4 := c98_4
              refine lv_iconst (v := 0) hx hb dX4_compare_105 (by decide) ?_
              subst hQ
              exact W.iret (v := 0) hx hb hr (fun t ht hW => ⟨_, rfl, (by rw [← e9, e8]; first | exact sg_l d3 | exact sg_g d3 d4 | exact sg_e d3 d4), ht⟩) (fun _ h => absurd h List.not_mem_nil) dX4_compare_106
            · skip
              have d4 := c98_4
              refine lv_iconst (v := 1) hx hb dX4_compare_101 (by decide) ?_
              refine lv_goto (tgt := 106) hx hb dX4_compare_102 (by decide) ?_
              subst hQ
              exact W.iret (v := 1) hx hb hr (fun t ht hW => ⟨_, rfl, (by rw [← e9, e8]; first | exact sg_l d3 | exact sg_g d3 d4 | exact sg_e d3 d4), ht⟩) (fun _ h => absurd h List.not_mem_nil) dX4_compare_106
          · skip
            have d3 := c83_3
            refine lv_iconst (v := -1) hx hb dX4_compare_86 (by decide) ?_
            refine lv_goto (tgt := 106) hx hb dX4_compare_87 (by decide) ?_
            subst hQ
            exact W.iret (v := (-1)) hx hb hr (fun t ht hW => ⟨_, rfl, (by rw [← e9, e8]; first | exact sg_l d3 | exact sg_g d3 d4 | exact sg_e d3 d4), ht⟩) (fun _ h => absurd h List.not_mem_nil) dX4_compare_106
        · skip
          rw [ti_le, nI_toInt (by omega), nI_toInt (by omega)] at c17_2
          refine lv_iload_n hx hb dX4_compare_20 rfl (lv_at hl 2 rfl) ?_
          refine lv_aload_n hx hb dX4_compare_21 rfl (lv_at hl 0 rfl) ?_
          refine va_get (D := (dC, dI)) (ci := 4) (v := .int (nI nk)) (C := RX4) (T := TX4) (N := 12) hx hb hw inX4 hown hK hP 0 rfl rfl 4 (by decide) (hw _ mw248) (fun _ h9 => h9) rfl dX4_compare_22 ?_
          refine lv_icmp_ge (tgt := 75) hx hb dX4_compare_25 (by decide) (fun c25_5 => ?_) (fun c25_5 => ?_)
          · skip
            rw [ti_le, nI_toInt (by omega), nI_toInt (by omega)] at c25_5
            have e8 : min nv nk - i = 0 := by omega
            refine lv_aload_n hx hb dX4_compare_75 rfl (lv_at hl 0 rfl) ?_
            refine va_get (D := (dC, dI)) (ci := 4) (v := .int (nI nv)) (C := RX4) (T := TX4) (N := 12) hx hb hw inX4 hown hK hP 0 rfl rfl 3 (by decide) (hw _ mw247) (fun _ h9 => h9) rfl dX4_compare_76 ?_
            refine lv_aload_n hx hb dX4_compare_79 rfl (lv_at hl 0 rfl) ?_
            refine va_get (D := (dC, dI)) (ci := 4) (v := .int (nI nk)) (C := RX4) (T := TX4) (N := 12) hx hb hw inX4 hown hK hP 0 rfl rfl 4 (by decide) (hw _ mw248) (fun _ h9 => h9) rfl dX4_compare_80 ?_
            refine lv_icmp_ge (tgt := 90) hx hb dX4_compare_83 (by decide) (fun c83_6 => ?_) (fun c83_6 => ?_)
            · skip
              have d3 := c83_6
              refine lv_aload_n hx hb dX4_compare_90 rfl (lv_at hl 0 rfl) ?_
              refine va_get (D := (dC, dI)) (ci := 4) (v := .int (nI nv)) (C := RX4) (T := TX4) (N := 12) hx hb hw inX4 hown hK hP 0 rfl rfl 3 (by decide) (hw _ mw247) (fun _ h9 => h9) rfl dX4_compare_91 ?_
              refine lv_aload_n hx hb dX4_compare_94 rfl (lv_at hl 0 rfl) ?_
              refine va_get (D := (dC, dI)) (ci := 4) (v := .int (nI nk)) (C := RX4) (T := TX4) (N := 12) hx hb hw inX4 hown hK hP 0 rfl rfl 4 (by decide) (hw _ mw248) (fun _ h9 => h9) rfl dX4_compare_95 ?_
              refine lv_icmp_le (tgt := 105) hx hb dX4_compare_98 (by decide) (fun c98_7 => ?_) (fun c98_7 => ?_)
              · skip
                have d4 := c98_7
                refine lv_iconst (v := 0) hx hb dX4_compare_105 (by decide) ?_
                subst hQ
                exact W.iret (v := 0) hx hb hr (fun t ht hW => ⟨_, rfl, (by rw [← e9, e8]; first | exact sg_l d3 | exact sg_g d3 d4 | exact sg_e d3 d4), ht⟩) (fun _ h => absurd h List.not_mem_nil) dX4_compare_106
              · skip
                have d4 := c98_7
                refine lv_iconst (v := 1) hx hb dX4_compare_101 (by decide) ?_
                refine lv_goto (tgt := 106) hx hb dX4_compare_102 (by decide) ?_
                subst hQ
                exact W.iret (v := 1) hx hb hr (fun t ht hW => ⟨_, rfl, (by rw [← e9, e8]; first | exact sg_l d3 | exact sg_g d3 d4 | exact sg_e d3 d4), ht⟩) (fun _ h => absurd h List.not_mem_nil) dX4_compare_106
            · skip
              have d3 := c83_6
              refine lv_iconst (v := -1) hx hb dX4_compare_86 (by decide) ?_
              refine lv_goto (tgt := 106) hx hb dX4_compare_87 (by decide) ?_
              subst hQ
              exact W.iret (v := (-1)) hx hb hr (fun t ht hW => ⟨_, rfl, (by rw [← e9, e8]; first | exact sg_l d3 | exact sg_g d3 d4 | exact sg_e d3 d4), ht⟩) (fun _ h => absurd h List.not_mem_nil) dX4_compare_106
          · skip
            rw [ti_le, nI_toInt (by omega), nI_toInt (by omega)] at c25_5
            refine lv_aload_n hx hb dX4_compare_28 rfl (lv_at hl 0 rfl) ?_
            refine va_get (D := (dC, dI)) (ci := 4) (v := .ref mv) (C := RX4) (T := TX4) (N := 12) hx hb hw inX4 hown hK hP 0 rfl rfl 1 (by decide) (hw _ mw245) (fun _ h9 => h9) rfl dX4_compare_29 ?_
            refine lv_iload_n hx hb dX4_compare_32 rfl (lv_at hl 2 rfl) ?_
            refine va_iald hx hb hK hP 1 0 rfl rfl (i := (nI i)) (vp_in_nI (by omega) (by omega)) dX4_compare_33 ?_
            refine lv_topi (fun x9 ex9 => ?_)
            obtain rfl : x9 = fv i := by rw [ex9, nI_clamp (by omega)]
            refine lv_iload_n hx hb dX4_compare_34 rfl (lv_at hl 1 rfl) ?_
            refine vp_callSi (va_Run.run (va_runS (As := [.int (fv i), .int (cp)]) (rest := []) ⟨hx, hb, hml, hown, hw⟩ (m_fold l (fv i) (cp)) (cwS 2 hw (gS mw308 mw309 mw20 mw310) rfl rfl rfl (by decide +kernel) ⟨Nat.le_of_ble_eq_true rfl, Nat.le_of_ble_eq_true rfl⟩) st.S rfl rfl hl.1 rfl (lv_room (Nat.le_of_ble_eq_true rfl)) dX4_compare_35 ⟨Nat.le_of_ble_eq_true rfl, Nat.le_of_ble_eq_true rfl⟩)) (fun r10 hr10 => ?_)
            subst hr10
            refine lv_istore_n (lv' := [(3, .int (fo (fv i) (cp))), (0, .ref mo), (1, .int (cp)), (2, .int (nI i))]) hx hb dX4_compare_38 rfl hl (by decide) rfl (fun ls hl => ?_)
            refine lv_aload_n hx hb dX4_compare_39 rfl (lv_at hl 1 rfl) ?_
            refine va_get (D := (dC, dI)) (ci := 4) (v := .ref mk) (C := RX4) (T := TX4) (N := 12) hx hb hw inX4 hown hK hP 0 rfl rfl 2 (by decide) (hw _ mw246) (fun _ h9 => h9) rfl dX4_compare_40 ?_
            refine lv_iload_n hx hb dX4_compare_43 rfl (lv_at hl 3 rfl) ?_
            refine va_iald hx hb hK hP 2 1 rfl rfl (i := (nI i)) (vp_in_nI (by omega) (by omega)) dX4_compare_44 ?_
            refine lv_topi (fun x11 ex11 => ?_)
            obtain rfl : x11 = fk i := by rw [ex11, nI_clamp (by omega)]
            refine lv_iload_n hx hb dX4_compare_45 rfl (lv_at hl 2 rfl) ?_
            refine vp_callSi (va_Run.run (va_runS (As := [.int (fk i), .int (cp)]) (rest := []) ⟨hx, hb, hml, hown, hw⟩ (m_fold l (fk i) (cp)) (cwS 2 hw (gS mw308 mw309 mw20 mw310) rfl rfl rfl (by decide +kernel) ⟨Nat.le_of_ble_eq_true rfl, Nat.le_of_ble_eq_true rfl⟩) st.S rfl rfl hl.1 rfl (lv_room (Nat.le_of_ble_eq_true rfl)) dX4_compare_46 ⟨Nat.le_of_ble_eq_true rfl, Nat.le_of_ble_eq_true rfl⟩)) (fun r12 hr12 => ?_)
            subst hr12
            refine lv_istore (lv' := [(4, .int (fo (fk i) (cp))), (3, .int (fo (fv i) (cp))), (0, .ref mo), (1, .int (cp)), (2, .int (nI i))]) hx hb dX4_compare_49 hl (by decide) rfl (fun ls hl => ?_)
            refine lv_iload_n hx hb dX4_compare_51 rfl (lv_at hl 1 rfl) ?_
            refine lv_iload hx hb dX4_compare_52 (lv_at hl 0 rfl) ?_
            refine lv_icmp_eq (tgt := 69) hx hb dX4_compare_54 (by decide) (fun c54_12 => ?_) (fun c54_12 => ?_)
            · skip
              have d1 := sg_0.mpr c54_12
              refine lv_iinc (v := nI (i + 1)) (lv' := [(2, .int (nI (i + 1))), (4, .int (fo (fk i) (cp))), (3, .int (fo (fv i) (cp))), (0, .ref mo), (1, .int (cp))]) hx hb dX4_compare_69 hl (k := 4) rfl (nI_inc i) (by decide) rfl (fun ls hl => ?_)
              refine lv_goto (tgt := 12) hx hb dX4_compare_72 (by decide) ?_
              exact ih12 (i + 1) (by omega) ((sbA_next (r := min nv nk - i) (by omega) d1).symm.trans e9) (by omega) ls (lv_sub hl [3, 4, 0] rfl)
            · skip
              have d1 := c54_12
              refine lv_iload_n hx hb dX4_compare_57 rfl (lv_at hl 1 rfl) ?_
              refine lv_iload hx hb dX4_compare_58 (lv_at hl 0 rfl) ?_
              refine lv_icmp_ge (tgt := 67) hx hb dX4_compare_60 (by decide) (fun c60_13 => ?_) (fun c60_13 => ?_)
              · skip
                have d2 := c60_13
                refine lv_iconst (v := 1) hx hb dX4_compare_67 (by decide) ?_
                subst hQ
                exact W.iret (v := 1) hx hb hr (fun t ht hW => ⟨_, rfl, (by rw [← e9, sbA_hit (by omega) (fun q => d1 (sg_0.mp q))]; first | exact (sg_lt1 d2).symm | exact (sg_n1 d2 d1).symm), ht⟩) (fun _ h => absurd h List.not_mem_nil) dX4_compare_68
              · skip
                have d2 := c60_13
                refine lv_iconst (v := -1) hx hb dX4_compare_63 (by decide) ?_
                refine lv_goto (tgt := 68) hx hb dX4_compare_64 (by decide) ?_
                subst hQ
                exact W.iret (v := (-1)) hx hb hr (fun t ht hW => ⟨_, rfl, (by rw [← e9, sbA_hit (by omega) (fun q => d1 (sg_0.mp q))]; first | exact (sg_lt1 d2).symm | exact (sg_n1 d2 d1).symm), ht⟩) (fun _ h => absurd h List.not_mem_nil) dX4_compare_68
    exact loop12 (min nv nk + 1) 0 (Nat.zero_le _) (by unfold stF; rw [if_neg z0]; rfl) (by omega) ls (lv_sub hl [1, 2, 0] rfl)
  · skip
    have z0 := c2_0
    refine lv_aload_n hx hb dX4_compare_5 rfl (lv_at hl 0 rfl) ?_
    refine vp_callSi (va_Run.run (va_runV (As := []) (rest := []) ⟨hx, hb, hml, hown, hw⟩ (m_byN l dC dI mo mv mk ms ml mc mf mn jv jk js jl jc jf jn fv fk gs gl gc gf gn nv nk sn ct th hv hk) (cwV 0 hw (gV mw298 mw300 mw11 mw20 mw301) rfl rfl rfl (by decide +kernel) ⟨Nat.le_of_ble_eq_true rfl, Nat.le_of_ble_eq_true rfl⟩) (ro.V (q0 := 0) (ci := 4) hN (hK.sub (tys' := [(jv, .int), (jk, .int), (js, .int), (jl, .int), (jc, .boolean), (jf, .int), (jn, .int)]) [0, 1, 2, 3, 4, 5, 6] rfl) (hP.sub (ws' := [(mo, .inr (4, [.int (th), .ref mv, .ref mk, .int (nI nv), .int (nI nk), .int (nI sn), .ref ms, .ref ml, .ref mc, .int (nI ct), .ref mf, .ref mn])), (mv, .inl (jv, 100, .inl fv)), (mk, .inl (jk, 100, .inl fk)), (ms, .inl (js, 100, .inl gs)), (ml, .inl (jl, 100, .inl gl)), (mc, .inl (jc, 10201, .inl gc)), (mf, .inl (jf, 100, .inl gf)), (mn, .inl (jn, 100, .inl gn))]) [0, 1, 2, 3, 4, 5, 6, 7] rfl) rfl rfl) rfl rfl hl.1 rfl (lv_room (Nat.le_of_ble_eq_true rfl)) dX4_compare_6 ⟨Nat.le_of_ble_eq_true rfl, Nat.le_of_ble_eq_true rfl⟩)) (fun r15 hr15 => ?_)
    subst hr15
    subst hQ
    exact W.iret (v := (snF fv fk nv nk)) hx hb hr (fun t ht hW => ⟨_, rfl, (by unfold stF; rw [if_pos z0]), ht⟩) (fun _ h => absurd h List.not_mem_nil) dX4_compare_9
