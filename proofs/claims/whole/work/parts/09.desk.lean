abbrev rm_c_Row_number : Room := { frames := 1, cells := 0, slots := 0, locals := 21 }
set_option maxHeartbeats 4000000 in
set_option maxRecDepth 100000 in
theorem c_Row_number (l : Launch) (dC : Nat → ClassId) (dI : Nat → Nat → Nat) (h0 q : Nat) (k : ClassId) (f : Nat → Int32) (n : Nat) (hn : n ≤ 100) : Met l yX1_numberUpTo (.code yX1_numberUpTo cX1_numberUpTo 7 (some (.long)) :: wsA) rm_c_Row_number (va_Pc [.ref h0, .long (10000000000)] (ro (dC, dI) [(h0, .inr (1, [.ref q, .int (nI n)])), (q, .inl (k, 100, .inl f))] [(k, .int)])) (vp_Sl (fun r => r = lN (kn f n))) 0 0 (fun _ => False) := by
  refine Met.ofW (cc := cX1_numberUpTo) (maxL := 7) (ret := (some (.long))) (by decide) rfl ?_
  intro p e s m args below meth c s₁ B hml hv
  obtain ⟨hargs, hN, hP, hK⟩ := hv
  have hx := B.exec
  have hb := B.bytes
  have hr := B.returns
  have hw : ∀ w ∈ wsA, w.before args s = true := fun w h => atoms_spec (ws := (.code yX1_numberUpTo cX1_numberUpTo 7 (some (.long)) :: wsA)) B.pre w (List.mem_cons_of_mem _ h)
  have hown : s.vm.findClass "GlobDesk$Row" = some m.cls := findClass_of_methodNamed B.named
  have hlocks := B.notSynchronized
  generalize hQ : MQ below _ args s _ _ _ = Q
  change W p l e rm_c_Row_number s m args below meth c s.heap [] 0 0 Q (entryFrame m args 7)
  have hl := lv_entry ([.ref h0, .long (10000000000)]) (n := 7) (Nat.le_of_ble_eq_true rfl)
  rw [show entryFrame m args 7 = entryFrame m ([.ref h0, .long (10000000000)] : List Value).toArray 7 from by rw [hargs], lg_entry_eq]
  generalize (lg_sl ([.ref h0, .long (10000000000)]) ++ List.replicate (7 - (lg_sl ([.ref h0, .long (10000000000)])).length) Slot.unset).toArray = ls at hl ⊢
  have hl : lv_has ls 7 [(0, .ref h0), (1, .long (10000000000))] := hl
  have hdn := dg_le f n
  refine lv_aload_n hx hb dX1_numberUpTo_0 rfl (lv_at hl 0 rfl) ?_
  refine vp_callSi (va_Run.run (va_runV (As := []) (rest := []) ⟨hx, hb, hml, hown, hw⟩ (c_Row_digits l dC dI h0 q k f n hn) (cwV 0 hw (gV mw225 mw126 mw127 mw17 mw128) rfl rfl rfl (by decide +kernel) ⟨Nat.le_of_ble_eq_true rfl, Nat.le_of_ble_eq_true rfl⟩) (ro.V (q0 := 0) (ci := 1) hN (hK.sub (tys' := [(k, .int)]) [0] rfl) (hP.sub (ws' := [(h0, .inr (1, [.ref q, .int (nI n)])), (q, .inl (k, 100, .inl f))]) [0, 1] rfl) rfl rfl) rfl rfl hl.1 rfl (lv_room (Nat.le_of_ble_eq_true rfl)) dX1_numberUpTo_1 ⟨Nat.le_of_ble_eq_true rfl, Nat.le_of_ble_eq_true rfl⟩)) (fun r1 hr1 => ?_)
  subst hr1
  refine lv_istore_n (lv' := [(3, .int (nI (dg f n))), (0, .ref h0), (1, .long (10000000000))]) hx hb dX1_numberUpTo_4 rfl hl (by decide) rfl (fun ls hl => ?_)
  refine lv_iload_n hx hb dX1_numberUpTo_5 rfl (lv_at hl 0 rfl) ?_
  refine lv_if_ne (tgt := 11) hx hb dX1_numberUpTo_6 (by decide) (fun c6_1 => ?_) (fun c6_1 => ?_)
  · skip
    rw [ti_eq, nI_toInt (by omega), tc_0] at c6_1
    have q1 : ¬ dg f n = 0 := by omega
    refine lv_lconst (v := 0) hx hb dX1_numberUpTo_11 (by decide) ?_
    refine lv_topl (fun x3 ex3 => ?_)
    obtain rfl : x3 = lN 0 := by rw [ex3]; rfl
    refine lv_lstore (lv' := [(4, .long (lN 0)), (3, .int (nI (dg f n))), (0, .ref h0), (1, .long (10000000000))]) hx hb dX1_numberUpTo_12 hl (by decide) rfl (fun ls hl => ?_)
    refine lv_iconst (v := 0) hx hb dX1_numberUpTo_14 (by decide) ?_
    refine lv_topi (fun x4 ex4 => ?_)
    obtain rfl : x4 = nI 0 := by rw [ex4]; exact nI_0.symm
    refine lv_istore (lv' := [(6, .int (nI 0)), (4, .long (lN 0)), (3, .int (nI (dg f n))), (0, .ref h0), (1, .long (10000000000))]) hx hb dX1_numberUpTo_15 hl (by decide) rfl (fun ls hl => ?_)
    have loop17 : ∀ (nn17 : Nat) (i x : Nat) (hi : i ≤ dg f n) (hxx : x ≤ 10000000000) (e9 : numA f (dg f n - i) i x = kn f n) (_ : dg f n - i < nn17) (ls : Array Slot) (_ : lv_has ls 7 [(0, .ref h0), (1, .long (10000000000)), (3, .int (nI (dg f n))), (4, .long (lN x)), (6, .int (nI i))]), W p l e rm_c_Row_number s m args below meth c s.heap [] 0 0 Q (F0 m 17 ls []) := by
      intro nn17
      induction nn17 with
      | zero => intro i x hi hxx e9 hm17 ls hl; exact absurd hm17 (Nat.not_lt_zero _)
      | succ nn17 ih17 =>
        intro i x hi hxx e9 hm17 ls hl
        refine lv_iload hx hb dX1_numberUpTo_17 (lv_at hl 4 rfl) ?_
        refine lv_iload_n hx hb dX1_numberUpTo_19 rfl (lv_at hl 2 rfl) ?_
        refine lv_icmp_ge (tgt := 52) hx hb dX1_numberUpTo_20 (by decide) (fun c20_4 => ?_) (fun c20_4 => ?_)
        · skip
          rw [ti_le, nI_toInt (by omega), nI_toInt (by omega)] at c20_4
          have e8 : i = dg f n := by omega
          refine lv_lload hx hb dX1_numberUpTo_52 (lv_at hl 3 rfl) ?_
          subst hQ
          exact W.lret (v := (lN x)) hx hb hr (fun t ht hW => ⟨_, rfl, (by rw [← e9, e8, Nat.sub_self]; rfl), ht⟩) (fun _ h => absurd h List.not_mem_nil) dX1_numberUpTo_54
        · skip
          rw [ti_le, nI_toInt (by omega), nI_toInt (by omega)] at c20_4
          have d1 : dgb (f i) = true := cnt_in (fun j => dgb (f j)) n 0 i (Nat.zero_le _) (by unfold dg at *; omega)
          have d2 := of_decide_eq_true d1
          refine lv_lload_n hx hb dX1_numberUpTo_23 rfl (lv_at hl 1 rfl) ?_
          refine lv_lload hx hb dX1_numberUpTo_24 (lv_at hl 3 rfl) ?_
          refine lv_ldc2 (v := 10) hx hb hown (hw _ mw226) dX1_numberUpTo_26 ?_
          refine lv_lmul hx hb dX1_numberUpTo_29 ?_
          refine lv_aload_n hx hb dX1_numberUpTo_30 rfl (lv_at hl 0 rfl) ?_
          refine lv_iload hx hb dX1_numberUpTo_31 (lv_at hl 4 rfl) ?_
          refine vp_callSi (va_Run.run (va_runV (As := [.int (nI i)]) (rest := [.long ((lN x) * (10)), .long (10000000000)]) ⟨hx, hb, hml, hown, hw⟩ (c_Row_at l dC dI h0 q k f n hn (nI i)) (cwV 1 hw (gV mw136 mw137 mw138 mw17 mw139) rfl rfl rfl (by decide +kernel) ⟨Nat.le_of_ble_eq_true rfl, Nat.le_of_ble_eq_true rfl⟩) (ro.V (q0 := 0) (ci := 1) hN (hK.sub (tys' := [(k, .int)]) [0] rfl) (hP.sub (ws' := [(h0, .inr (1, [.ref q, .int (nI n)])), (q, .inl (k, 100, .inl f))]) [0, 1] rfl) rfl rfl) rfl rfl hl.1 rfl (lv_room (Nat.le_of_ble_eq_true rfl)) dX1_numberUpTo_33 ⟨Nat.le_of_ble_eq_true rfl, Nat.le_of_ble_eq_true rfl⟩)) (fun r6 hr6 => ?_)
          rw [ra_in (by omega) hn] at hr6
          subst hr6
          refine lv_bipush (v := 48) hx hb dX1_numberUpTo_36 (by decide) ?_
          refine lv_isub hx hb dX1_numberUpTo_38 ?_
          refine lv_i2l hx hb dX1_numberUpTo_39 rfl ?_
          refine lv_topl (fun x7 ex7 => ?_)
          obtain rfl : x7 = lN ((f i).toInt.toNat - 48) := by rw [ex7]; exact dgv d1
          refine lv_ladd hx hb dX1_numberUpTo_40 ?_
          refine va_mmin_long hx hb (by rw [hml]; exact hl.1.symm) hown (hw _ mw227) (hw _ mw228) (hw _ mw21) (hw _ mw229) (Nat.le_of_ble_eq_true rfl) (Nat.le_of_ble_eq_true rfl) (Nat.le_of_ble_eq_true rfl) (Nat.le_of_ble_eq_true rfl) dX1_numberUpTo_41 ?_
          refine lv_topl (fun x8 ex8 => ?_)
          obtain rfl : x8 = lN (min 10000000000 (x * 10 + ((f i).toInt.toNat - 48))) := by rw [ex8]; exact numS hxx (by omega)
          refine lv_lstore (lv' := [(4, .long (lN (min 10000000000 (x * 10 + ((f i).toInt.toNat - 48))))), (0, .ref h0), (1, .long (10000000000)), (3, .int (nI (dg f n))), (6, .int (nI i))]) hx hb dX1_numberUpTo_44 hl (by decide) rfl (fun ls hl => ?_)
          refine lv_iinc (v := nI (i + 1)) (lv' := [(6, .int (nI (i + 1))), (4, .long (lN (min 10000000000 (x * 10 + ((f i).toInt.toNat - 48))))), (0, .ref h0), (1, .long (10000000000)), (3, .int (nI (dg f n)))]) hx hb dX1_numberUpTo_46 hl (k := 4) rfl (nI_inc i) (by decide) rfl (fun ls hl => ?_)
          refine lv_goto (tgt := 17) hx hb dX1_numberUpTo_49 (by decide) ?_
          exact ih17 (i + 1) (min 10000000000 (x * 10 + ((f i).toInt.toNat - 48))) (by omega) (Nat.min_le_left _ _) ((numA_next (f := f) (r := dg f n - i) (i := i) (x := x) (by omega)).symm.trans e9) (by omega) ls (lv_sub hl [2, 3, 4, 1, 0] rfl)
    exact loop17 (dg f n + 1) 0 0 (Nat.zero_le _) (Nat.zero_le _) (by unfold kn; rw [if_neg q1]; rfl) (by omega) ls (lv_sub hl [3, 4, 2, 1, 0] rfl)
  · skip
    rw [ti_eq, nI_toInt (by omega), tc_0] at c6_1
    have q1 : dg f n = 0 := by omega
    refine lv_lload_n hx hb dX1_numberUpTo_9 rfl (lv_at hl 2 rfl) ?_
    subst hQ
    exact W.lret (v := 10000000000) hx hb hr (fun t ht hW => ⟨_, rfl, (by unfold kn; rw [if_pos q1]; rfl), ht⟩) (fun _ h => absurd h List.not_mem_nil) dX1_numberUpTo_10

abbrev rm_c_Pat_star : Room := { frames := 1, cells := 0, slots := 0, locals := 21 }
set_option maxHeartbeats 4000000 in
set_option maxRecDepth 100000 in
theorem c_Pat_star (l : Launch) (dC : Nat → ClassId) (dI : Nat → Nat → Nat) (h0 q : Nat) (k : ClassId) (f : Nat → Int32) (n : Nat) (hn : n ≤ 100) (b : Nat) (hbn : b ≤ n) : Met l yX0_starFrom (.code yX0_starFrom cX0_starFrom 3 (some (.int)) :: wsA) rm_c_Pat_star (va_Pc [.ref h0, .int (nI b)] (ro (dC, dI) [(h0, .inr (0, [.ref q, .int (nI n)])), (q, .inl (k, 100, .inl f))] [(k, .int)])) (vp_Si (fun r => r = nI (cnt (fun j => decide (f j ≠ 257)) (n - b) b))) 0 0 (fun _ => False) := by
  refine Met.ofW (cc := cX0_starFrom) (maxL := 3) (ret := (some (.int))) (by decide) rfl ?_
  intro p e s m args below meth c s₁ B hml hv
  obtain ⟨hargs, hN, hP, hK⟩ := hv
  have hx := B.exec
  have hb := B.bytes
  have hr := B.returns
  have hw : ∀ w ∈ wsA, w.before args s = true := fun w h => atoms_spec (ws := (.code yX0_starFrom cX0_starFrom 3 (some (.int)) :: wsA)) B.pre w (List.mem_cons_of_mem _ h)
  have hown : s.vm.findClass "GlobDesk$Pattern" = some m.cls := findClass_of_methodNamed B.named
  have hlocks := B.notSynchronized
  generalize hQ : MQ below _ args s _ _ _ = Q
  change W p l e rm_c_Pat_star s m args below meth c s.heap [] 0 0 Q (entryFrame m args 3)
  have hl := lv_entry ([.ref h0, .int (nI b)]) (n := 3) (Nat.le_of_ble_eq_true rfl)
  rw [show entryFrame m args 3 = entryFrame m ([.ref h0, .int (nI b)] : List Value).toArray 3 from by rw [hargs], lg_entry_eq]
  generalize (lg_sl ([.ref h0, .int (nI b)]) ++ List.replicate (3 - (lg_sl ([.ref h0, .int (nI b)])).length) Slot.unset).toArray = ls at hl ⊢
  have hl : lv_has ls 3 [(0, .ref h0), (1, .int (nI b))] := hl
  refine lv_iload_n hx hb dX0_starFrom_0 rfl (lv_at hl 1 rfl) ?_
  refine lv_istore_n (lv' := [(2, .int (nI b)), (0, .ref h0), (1, .int (nI b))]) hx hb dX0_starFrom_1 rfl hl (by decide) rfl (fun ls hl => ?_)
  have loop2 : ∀ (nn2 : Nat) (i : Nat) (hi : i ≤ n) (e9 : cnt (fun j => decide (f j ≠ 257)) (n - i) i = cnt (fun j => decide (f j ≠ 257)) (n - b) b) (_ : n - i < nn2) (ls : Array Slot) (_ : lv_has ls 3 [(0, .ref h0), (2, .int (nI i))]), W p l e rm_c_Pat_star s m args below meth c s.heap [] 0 0 Q (F0 m 2 ls []) := by
    intro nn2
    induction nn2 with
    | zero => intro i hi e9 hm2 ls hl; exact absurd hm2 (Nat.not_lt_zero _)
    | succ nn2 ih2 =>
      intro i hi e9 hm2 ls hl
      refine lv_iload_n hx hb dX0_starFrom_2 rfl (lv_at hl 1 rfl) ?_
      refine lv_aload_n hx hb dX0_starFrom_3 rfl (lv_at hl 0 rfl) ?_
      refine va_get (D := (dC, dI)) (ci := 0) (v := .int (nI n)) (C := RX0) (T := TX0) (N := 2) hx hb hw inX0 hown hK hP 0 rfl rfl 1 (by decide) (hw _ mw53) (fun _ h9 => h9) rfl dX0_starFrom_4 ?_
      refine lv_icmp_ge (tgt := 27) hx hb dX0_starFrom_7 (by decide) (fun c7_0 => ?_) (fun c7_0 => ?_)
      · skip
        rw [ti_le, nI_toInt (by omega), nI_toInt (by omega)] at c7_0
        have e8 : i = n := by omega
        refine lv_iload_n hx hb dX0_starFrom_27 rfl (lv_at hl 1 rfl) ?_
        subst hQ
        exact W.iret (v := (nI i)) hx hb hr (fun t ht hW => ⟨_, rfl, (by first | (rw [← e9, cnt_stop (decide_eq_false (not_not_intro d1))]) | (rw [← e9, e8, Nat.sub_self]; rfl)), ht⟩) (fun _ h => absurd h List.not_mem_nil) dX0_starFrom_28
      · skip
        rw [ti_le, nI_toInt (by omega), nI_toInt (by omega)] at c7_0
        refine lv_aload_n hx hb dX0_starFrom_10 rfl (lv_at hl 0 rfl) ?_
        refine lv_iload_n hx hb dX0_starFrom_11 rfl (lv_at hl 1 rfl) ?_
        refine vp_callSi (va_Run.run (va_runV (As := [.int (nI i)]) (rest := []) ⟨hx, hb, hml, hown, hw⟩ (c_Pat_at l dC dI h0 q k f n hn (nI i)) (cwV 1 hw (gV mw192 mw173 mw174 mw18 mw175) rfl rfl rfl (by decide +kernel) ⟨Nat.le_of_ble_eq_true rfl, Nat.le_of_ble_eq_true rfl⟩) (ro.V (q0 := 0) (ci := 0) hN (hK.sub (tys' := [(k, .int)]) [0] rfl) (hP.sub (ws' := [(h0, .inr (0, [.ref q, .int (nI n)])), (q, .inl (k, 100, .inl f))]) [0, 1] rfl) rfl rfl) rfl rfl hl.1 rfl (lv_room (Nat.le_of_ble_eq_true rfl)) dX0_starFrom_12 ⟨Nat.le_of_ble_eq_true rfl, Nat.le_of_ble_eq_true rfl⟩)) (fun r2 hr2 => ?_)
        rw [ra_in (by omega) hn] at hr2
        subst hr2
        refine lv_sipush (v := 257) hx hb dX0_starFrom_15 (by decide) ?_
        refine lv_icmp_eq (tgt := 27) hx hb dX0_starFrom_18 (by decide) (fun c18_2 => ?_) (fun c18_2 => ?_)
        · skip
          have d1 := c18_2
          refine lv_iload_n hx hb dX0_starFrom_27 rfl (lv_at hl 1 rfl) ?_
          subst hQ
          exact W.iret (v := (nI i)) hx hb hr (fun t ht hW => ⟨_, rfl, (by first | (rw [← e9, cnt_stop (decide_eq_false (not_not_intro d1))]) | (rw [← e9, e8, Nat.sub_self]; rfl)), ht⟩) (fun _ h => absurd h List.not_mem_nil) dX0_starFrom_28
        · skip
          have d1 := c18_2
          refine lv_iinc (v := nI (i + 1)) (lv' := [(2, .int (nI (i + 1))), (0, .ref h0)]) hx hb dX0_starFrom_21 hl (k := 1) rfl (nI_inc i) (by decide) rfl (fun ls hl => ?_)
          refine lv_goto (tgt := 2) hx hb dX0_starFrom_24 (by decide) ?_
          exact ih2 (i + 1) (by omega) ((cnt_step (p := fun j => decide (f j ≠ 257)) (k := n - i) (i := i) (decide_eq_true d1) (by omega)).symm.trans e9) (by omega) ls (lv_sub hl [1, 0] rfl)
  exact loop2 (n - b + 1) b hbn rfl (by omega) ls (lv_sub hl [1, 0] rfl)

abbrev rm_c_fits : Room := { frames := 1, cells := 0, slots := 0, locals := 22 }
set_option maxHeartbeats 4000000 in
set_option maxRecDepth 100000 in
theorem c_fits (l : Launch) (dC : Nat → ClassId) (dI : Nat → Nat → Nat) (g rv rk pt sp av ak ap a1 a2 : Nat) (kv kk kp k1 k2 : ClassId) (fv fk fp f1 f2 : Nat → Int32) (nv nk np ns : Nat) (hv : nv ≤ 100) (hk : nk ≤ 100) (hp : np ≤ 100) (hs : ns ≤ 100) (a b p0 : Nat) (cp : Int32) (hab : a ≤ b) (hbp : b ≤ np) (hp0 : p0 ≤ 100) : Met l yX3_fits (.code yX3_fits cX3_fits 8 (some (.boolean)) :: wsA) rm_c_fits (va_Pc [.ref g, .int (nI a), .int (nI b), .int (nI p0), .int (cp)] (ro (dC, dI) [(g, .inr (3, [.ref rv, .ref rk, .ref pt, .ref sp])), (rv, .inr (1, [.ref av, .int (nI nv)])), (av, .inl (kv, 100, .inl fv)), (rk, .inr (1, [.ref ak, .int (nI nk)])), (ak, .inl (kk, 100, .inl fk)), (pt, .inr (0, [.ref ap, .int (nI np)])), (ap, .inl (kp, 100, .inl fp)), (sp, .inr (2, [.ref a1, .ref a2, .int (nI ns)])), (a1, .inl (k1, 100, .inl f1)), (a2, .inl (k2, 100, .inl f2))] [(kv, .int), (kk, .int), (kp, .int), (k1, .int), (k2, .int)])) (vp_Si (fun r => r = if fitB fp fv nv cp a b p0 = true then 1 else 0)) 0 0 (fun _ => False) := by
  refine Met.ofW (cc := cX3_fits) (maxL := 8) (ret := (some (.boolean))) (by decide) rfl ?_
  intro p e s m args below meth c s₁ B hml hv
  obtain ⟨hargs, hN, hP, hK⟩ := hv
  have hx := B.exec
  have hb := B.bytes
  have hr := B.returns
  have hw : ∀ w ∈ wsA, w.before args s = true := fun w h => atoms_spec (ws := (.code yX3_fits cX3_fits 8 (some (.boolean)) :: wsA)) B.pre w (List.mem_cons_of_mem _ h)
  have hown : s.vm.findClass "GlobDesk" = some m.cls := findClass_of_methodNamed B.named
  have hlocks := B.notSynchronized
  generalize hQ : MQ below _ args s _ _ _ = Q
  change W p l e rm_c_fits s m args below meth c s.heap [] 0 0 Q (entryFrame m args 8)
  have hl := lv_entry ([.ref g, .int (nI a), .int (nI b), .int (nI p0), .int (cp)]) (n := 8) (Nat.le_of_ble_eq_true rfl)
  rw [show entryFrame m args 8 = entryFrame m ([.ref g, .int (nI a), .int (nI b), .int (nI p0), .int (cp)] : List Value).toArray 8 from by rw [hargs], lg_entry_eq]
  generalize (lg_sl ([.ref g, .int (nI a), .int (nI b), .int (nI p0), .int (cp)]) ++ List.replicate (8 - (lg_sl ([.ref g, .int (nI a), .int (nI b), .int (nI p0), .int (cp)])).length) Slot.unset).toArray = ls at hl ⊢
  have hl : lv_has ls 8 [(0, .ref g), (1, .int (nI a)), (2, .int (nI b)), (3, .int (nI p0)), (4, .int (cp))] := hl
  refine lv_iload_n hx hb dX3_fits_0 rfl (lv_at hl 2 rfl) ?_
  refine lv_iload_n hx hb dX3_fits_1 rfl (lv_at hl 1 rfl) ?_
  refine lv_isub hx hb dX3_fits_2 ?_
  refine lv_aload_n hx hb dX3_fits_3 rfl (lv_at hl 0 rfl) ?_
  refine va_get (D := (dC, dI)) (ci := 3) (v := .ref rv) (C := RX3) (T := TX3) (N := 4) hx hb hw inX3 hown hK hP 0 rfl rfl 0 (by decide) (hw _ mw77) (fun _ h9 => h9) rfl dX3_fits_4 ?_
  refine va_getN (D := (dC, dI)) (ci := 1) (v := .int (nI nv)) (C := RX1) (T := TX1) (N := 2) hx hb hw inX1 hown hK hP 1 rfl rfl 1 (by decide) (va_Nw.use rfl hN.2.2.1) (fun _ h9 => h9) rfl dX3_fits_7 ?_
  refine lv_iload_n hx hb dX3_fits_10 rfl (lv_at hl 3 rfl) ?_
  refine lv_isub hx hb dX3_fits_11 ?_
  refine lv_icmp_le (tgt := 17) hx hb dX3_fits_12 (by decide) (fun c12_0 => ?_) (fun c12_0 => ?_)
  · skip
    rw [ti_le, pk_sub_toInt (by omega) (by omega), pk_sub_toInt (by omega) (by omega)] at c12_0
    have q0 : p0 + (b - a) ≤ nv := by omega
    refine lv_iload_n hx hb dX3_fits_17 rfl (lv_at hl 1 rfl) ?_
    refine lv_istore (lv' := [(5, .int (nI a)), (0, .ref g), (1, .int (nI a)), (2, .int (nI b)), (3, .int (nI p0)), (4, .int (cp))]) hx hb dX3_fits_18 hl (by decide) rfl (fun ls hl => ?_)
    have loop20 : ∀ (nn20 : Nat) (i : Nat) (hai : a ≤ i) (hi : i ≤ b) (e9 : fitA fp fv cp (b - i) i (p0 + (i - a)) = fitA fp fv cp (b - a) a p0) (_ : b - i < nn20) (ls : Array Slot) (_ : lv_has ls 8 [(0, .ref g), (1, .int (nI a)), (2, .int (nI b)), (3, .int (nI p0)), (4, .int (cp)), (5, .int (nI i))]), W p l e rm_c_fits s m args below meth c s.heap [] 0 0 Q (F0 m 20 ls []) := by
      intro nn20
      induction nn20 with
      | zero => intro i hai hi e9 hm20 ls hl; exact absurd hm20 (Nat.not_lt_zero _)
      | succ nn20 ih20 =>
        intro i hai hi e9 hm20 ls hl
        refine lv_iload hx hb dX3_fits_20 (lv_at hl 5 rfl) ?_
        refine lv_iload_n hx hb dX3_fits_22 rfl (lv_at hl 2 rfl) ?_
        refine lv_icmp_ge (tgt := 85) hx hb dX3_fits_23 (by decide) (fun c23_1 => ?_) (fun c23_1 => ?_)
        · skip
          rw [ti_le, nI_toInt (by omega), nI_toInt (by omega)] at c23_1
          have e8 : i = b := by omega
          refine lv_iconst (v := 1) hx hb dX3_fits_85 (by decide) ?_
          subst hQ
          exact W.zret (v := 1) hx hb hr (by decide) (fun t ht hW => ⟨_, rfl, (by unfold fitB; rw [← e9, e8, Nat.sub_self, decide_eq_true q0]; rfl), ht⟩) (fun _ h => absurd h List.not_mem_nil) dX3_fits_86
        · skip
          rw [ti_le, nI_toInt (by omega), nI_toInt (by omega)] at c23_1
          refine lv_aload_n hx hb dX3_fits_26 rfl (lv_at hl 0 rfl) ?_
          refine va_get (D := (dC, dI)) (ci := 3) (v := .ref pt) (C := RX3) (T := TX3) (N := 4) hx hb hw inX3 hown hK hP 0 rfl rfl 2 (by decide) (hw _ mw79) (fun _ h9 => h9) rfl dX3_fits_27 ?_
          refine lv_iload hx hb dX3_fits_30 (lv_at hl 5 rfl) ?_
          refine vp_callSi (va_Run.run (va_runV (As := [.int (nI i)]) (rest := []) ⟨hx, hb, hml, hown, hw⟩ (c_Pat_at l dC dI pt ap kp fp np hp (nI i)) (cwV 1 hw (gV mw172 mw173 mw174 mw18 mw175) rfl rfl rfl (by decide +kernel) ⟨Nat.le_of_ble_eq_true rfl, Nat.le_of_ble_eq_true rfl⟩) (ro.V (q0 := 0) (ci := 0) hN (hK.sub (tys' := [(kp, .int)]) [2] rfl) (hP.sub (ws' := [(pt, .inr (0, [.ref ap, .int (nI np)])), (ap, .inl (kp, 100, .inl fp))]) [5, 6] rfl) rfl rfl) rfl rfl hl.1 rfl (lv_room (Nat.le_of_ble_eq_true rfl)) dX3_fits_32 ⟨Nat.le_of_ble_eq_true rfl, Nat.le_of_ble_eq_true rfl⟩)) (fun r3 hr3 => ?_)
          rw [ra_in (by omega) hp] at hr3
          subst hr3
          refine lv_istore (lv' := [(6, .int (fp i)), (0, .ref g), (1, .int (nI a)), (2, .int (nI b)), (3, .int (nI p0)), (4, .int (cp)), (5, .int (nI i))]) hx hb dX3_fits_35 hl (by decide) rfl (fun ls hl => ?_)
          refine lv_aload_n hx hb dX3_fits_37 rfl (lv_at hl 1 rfl) ?_
          refine va_get (D := (dC, dI)) (ci := 3) (v := .ref rv) (C := RX3) (T := TX3) (N := 4) hx hb hw inX3 hown hK hP 0 rfl rfl 0 (by decide) (hw _ mw77) (fun _ h9 => h9) rfl dX3_fits_38 ?_
          refine lv_iload_n hx hb dX3_fits_41 rfl (lv_at hl 4 rfl) ?_
          refine lv_iload hx hb dX3_fits_42 (lv_at hl 6 rfl) ?_
          refine lv_iload_n hx hb dX3_fits_44 rfl (lv_at hl 2 rfl) ?_
          refine lv_isub hx hb dX3_fits_45 ?_
          refine lv_iadd hx hb dX3_fits_46 ?_
          refine lv_topi (fun x4 ex4 => ?_)
          obtain rfl : x4 = nI (p0 + (i - a)) := by rw [ex4, pk_sub hai, nI_add]
          refine vp_callSi (va_Run.run (va_runV (As := [.int (nI (p0 + (i - a)))]) (rest := []) ⟨hx, hb, hml, hown, hw⟩ (c_Row_at l dC dI rv av kv fv nv hv (nI (p0 + (i - a)))) (cwV 1 hw (gV mw140 mw137 mw138 mw17 mw139) rfl rfl rfl (by decide +kernel) ⟨Nat.le_of_ble_eq_true rfl, Nat.le_of_ble_eq_true rfl⟩) (ro.V (q0 := 0) (ci := 1) hN (hK.sub (tys' := [(kv, .int)]) [0] rfl) (hP.sub (ws' := [(rv, .inr (1, [.ref av, .int (nI nv)])), (av, .inl (kv, 100, .inl fv))]) [1, 2] rfl) rfl rfl) rfl rfl hl.1 rfl (lv_room (Nat.le_of_ble_eq_true rfl)) dX3_fits_47 ⟨Nat.le_of_ble_eq_true rfl, Nat.le_of_ble_eq_true rfl⟩)) (fun r5 hr5 => ?_)
          rw [ra_in (by omega) hv] at hr5
          subst hr5
          refine lv_istore (lv' := [(7, .int (fv (p0 + (i - a)))), (6, .int (fp i)), (0, .ref g), (1, .int (nI a)), (2, .int (nI b)), (3, .int (nI p0)), (4, .int (cp)), (5, .int (nI i))]) hx hb dX3_fits_50 hl (by decide) rfl (fun ls hl => ?_)
          refine lv_iload hx hb dX3_fits_52 (lv_at hl 1 rfl) ?_
          refine lv_sipush (v := 256) hx hb dX3_fits_54 (by decide) ?_
          refine lv_icmp_eq (tgt := 79) hx hb dX3_fits_57 (by decide) (fun c57_5 => ?_) (fun c57_5 => ?_)
          · skip
            have d1 : mok (fp i) (fv (p0 + (i - a))) cp = true := decide_eq_true (Or.inl c57_5)
            refine lv_iinc (v := nI (i + 1)) (lv' := [(5, .int (nI (i + 1))), (7, .int (fv (p0 + (i - a)))), (6, .int (fp i)), (0, .ref g), (1, .int (nI a)), (2, .int (nI b)), (3, .int (nI p0)), (4, .int (cp))]) hx hb dX3_fits_79 hl (k := 7) rfl (nI_inc i) (by decide) rfl (fun ls hl => ?_)
            refine lv_goto (tgt := 20) hx hb dX3_fits_82 (by decide) ?_
            exact ih20 (i + 1) (by omega) (by omega) (by rw [← e9, fitA_yes (k := b - i) (by omega) d1, show p0 + (i + 1 - a) = p0 + (i - a) + 1 from by omega]; rfl) (by omega) ls (lv_sub hl [3, 4, 5, 6, 7, 0] rfl)
          · skip
            have d0 := c57_5
            refine lv_iload hx hb dX3_fits_60 (lv_at hl 1 rfl) ?_
            refine lv_iload hx hb dX3_fits_62 (lv_at hl 6 rfl) ?_
            refine vp_callSi (va_Run.run (va_runS (As := [.int (fp i), .int (cp)]) (rest := []) ⟨hx, hb, hml, hown, hw⟩ (c_fold l (fp i) (cp)) (cwS 2 hw (gS mw148 mw149 mw16 mw150) rfl rfl rfl (by decide +kernel) ⟨Nat.le_of_ble_eq_true rfl, Nat.le_of_ble_eq_true rfl⟩) st.S rfl rfl hl.1 rfl (lv_room (Nat.le_of_ble_eq_true rfl)) dX3_fits_64 ⟨Nat.le_of_ble_eq_true rfl, Nat.le_of_ble_eq_true rfl⟩)) (fun r7 hr7 => ?_)
            subst hr7
            refine lv_iload hx hb dX3_fits_67 (lv_at hl 0 rfl) ?_
            refine lv_iload hx hb dX3_fits_69 (lv_at hl 6 rfl) ?_
            refine vp_callSi (va_Run.run (va_runS (As := [.int (fv (p0 + (i - a))), .int (cp)]) (rest := [.int (fo (fp i) (cp))]) ⟨hx, hb, hml, hown, hw⟩ (c_fold l (fv (p0 + (i - a))) (cp)) (cwS 2 hw (gS mw148 mw149 mw16 mw150) rfl rfl rfl (by decide +kernel) ⟨Nat.le_of_ble_eq_true rfl, Nat.le_of_ble_eq_true rfl⟩) st.S rfl rfl hl.1 rfl (lv_room (Nat.le_of_ble_eq_true rfl)) dX3_fits_71 ⟨Nat.le_of_ble_eq_true rfl, Nat.le_of_ble_eq_true rfl⟩)) (fun r8 hr8 => ?_)
            subst hr8
            refine lv_icmp_eq (tgt := 79) hx hb dX3_fits_74 (by decide) (fun c74_8 => ?_) (fun c74_8 => ?_)
            · skip
              have d1 : mok (fp i) (fv (p0 + (i - a))) cp = true := decide_eq_true (Or.inr c74_8)
              refine lv_iinc (v := nI (i + 1)) (lv' := [(5, .int (nI (i + 1))), (7, .int (fv (p0 + (i - a)))), (6, .int (fp i)), (0, .ref g), (1, .int (nI a)), (2, .int (nI b)), (3, .int (nI p0)), (4, .int (cp))]) hx hb dX3_fits_79 hl (k := 7) rfl (nI_inc i) (by decide) rfl (fun ls hl => ?_)
              refine lv_goto (tgt := 20) hx hb dX3_fits_82 (by decide) ?_
              exact ih20 (i + 1) (by omega) (by omega) (by rw [← e9, fitA_yes (k := b - i) (by omega) d1, show p0 + (i + 1 - a) = p0 + (i - a) + 1 from by omega]; rfl) (by omega) ls (lv_sub hl [3, 4, 5, 6, 7, 0] rfl)
            · skip
              have d1 : mok (fp i) (fv (p0 + (i - a))) cp = false := decide_eq_false (fun h => h.elim d0 c74_8)
              have q9 : fitB fp fv nv cp a b p0 = false := by unfold fitB; rw [← e9, fitA_no (by omega) d1, Bool.and_false]
              refine lv_iconst (v := 0) hx hb dX3_fits_77 (by decide) ?_
              subst hQ
              exact W.zret (v := 0) hx hb hr (by decide) (fun t ht hW => ⟨_, rfl, (by rw [q9]; rfl), ht⟩) (fun _ h => absurd h List.not_mem_nil) dX3_fits_78
    exact loop20 (b - a + 1) a (Nat.le_refl _) hab (by rw [Nat.sub_self]; rfl) (by omega) ls (lv_sub hl [1, 2, 3, 4, 5, 0] rfl)
  · skip
    rw [ti_le, pk_sub_toInt (by omega) (by omega), pk_sub_toInt (by omega) (by omega)] at c12_0
    have q0 : ¬ p0 + (b - a) ≤ nv := by omega
    have q9 : fitB fp fv nv cp a b p0 = false := by unfold fitB; rw [decide_eq_false q0]; rfl
    refine lv_iconst (v := 0) hx hb dX3_fits_15 (by decide) ?_
    subst hQ
    exact W.zret (v := 0) hx hb hr (by decide) (fun t ht hW => ⟨_, rfl, (by rw [q9]; rfl), ht⟩) (fun _ h => absurd h List.not_mem_nil) dX3_fits_16

abbrev rm_c_first : Room := { frames := 2, cells := 0, slots := 0, locals := 49 }
set_option maxHeartbeats 4000000 in
set_option maxRecDepth 100000 in
theorem c_first (l : Launch) (dC : Nat → ClassId) (dI : Nat → Nat → Nat) (g rv rk pt sp av ak ap a1 a2 : Nat) (kv kk kp k1 k2 : ClassId) (fv fk fp f1 f2 : Nat → Int32) (nv nk np ns : Nat) (hv : nv ≤ 100) (hk : nk ≤ 100) (hp : np ≤ 100) (hs : ns ≤ 100) (a b e0 : Nat) (cp : Int32) (hab : a ≤ b) (hbp : b ≤ np) (he0 : e0 ≤ 100) : Met l yX3_firstPlace (.code yX3_firstPlace cX3_firstPlace 7 (some (.int)) :: wsA) rm_c_first (va_Pc [.ref g, .int (nI a), .int (nI b), .int (nI e0), .int (cp)] (ro (dC, dI) [(g, .inr (3, [.ref rv, .ref rk, .ref pt, .ref sp])), (rv, .inr (1, [.ref av, .int (nI nv)])), (av, .inl (kv, 100, .inl fv)), (rk, .inr (1, [.ref ak, .int (nI nk)])), (ak, .inl (kk, 100, .inl fk)), (pt, .inr (0, [.ref ap, .int (nI np)])), (ap, .inl (kp, 100, .inl fp)), (sp, .inr (2, [.ref a1, .ref a2, .int (nI ns)])), (a1, .inl (k1, 100, .inl f1)), (a2, .inl (k2, 100, .inl f2))] [(kv, .int), (kk, .int), (kp, .int), (k1, .int), (k2, .int)])) (vp_Si (fun r => r = fpF fp fv nv cp a b e0)) 0 0 (fun _ => False) := by
  refine Met.ofW (cc := cX3_firstPlace) (maxL := 7) (ret := (some (.int))) (by decide) rfl ?_
  intro p e s m args below meth c s₁ B hml hv
  obtain ⟨hargs, hN, hP, hK⟩ := hv
  have hx := B.exec
  have hb := B.bytes
  have hr := B.returns
  have hw : ∀ w ∈ wsA, w.before args s = true := fun w h => atoms_spec (ws := (.code yX3_firstPlace cX3_firstPlace 7 (some (.int)) :: wsA)) B.pre w (List.mem_cons_of_mem _ h)
  have hown : s.vm.findClass "GlobDesk" = some m.cls := findClass_of_methodNamed B.named
  have hlocks := B.notSynchronized
  generalize hQ : MQ below _ args s _ _ _ = Q
  change W p l e rm_c_first s m args below meth c s.heap [] 0 0 Q (entryFrame m args 7)
  have hl := lv_entry ([.ref g, .int (nI a), .int (nI b), .int (nI e0), .int (cp)]) (n := 7) (Nat.le_of_ble_eq_true rfl)
  rw [show entryFrame m args 7 = entryFrame m ([.ref g, .int (nI a), .int (nI b), .int (nI e0), .int (cp)] : List Value).toArray 7 from by rw [hargs], lg_entry_eq]
  generalize (lg_sl ([.ref g, .int (nI a), .int (nI b), .int (nI e0), .int (cp)]) ++ List.replicate (7 - (lg_sl ([.ref g, .int (nI a), .int (nI b), .int (nI e0), .int (cp)])).length) Slot.unset).toArray = ls at hl ⊢
  have hl : lv_has ls 7 [(0, .ref g), (1, .int (nI a)), (2, .int (nI b)), (3, .int (nI e0)), (4, .int (cp))] := hl
  refine lv_aload_n hx hb dX3_firstPlace_0 rfl (lv_at hl 0 rfl) ?_
  refine va_get (D := (dC, dI)) (ci := 3) (v := .ref rv) (C := RX3) (T := TX3) (N := 4) hx hb hw inX3 hown hK hP 0 rfl rfl 0 (by decide) (hw _ mw77) (fun _ h9 => h9) rfl dX3_firstPlace_1 ?_
  refine va_getN (D := (dC, dI)) (ci := 1) (v := .int (nI nv)) (C := RX1) (T := TX1) (N := 2) hx hb hw inX1 hown hK hP 1 rfl rfl 1 (by decide) (va_Nw.use rfl hN.2.2.1) (fun _ h9 => h9) rfl dX3_firstPlace_4 ?_
  refine lv_iload_n hx hb dX3_firstPlace_7 rfl (lv_at hl 2 rfl) ?_
  refine lv_iload_n hx hb dX3_firstPlace_8 rfl (lv_at hl 1 rfl) ?_
  refine lv_isub hx hb dX3_firstPlace_9 ?_
  refine lv_isub hx hb dX3_firstPlace_10 ?_
  refine lv_istore (lv' := [(5, .int ((nI nv) - ((nI b) - (nI a)))), (0, .ref g), (1, .int (nI a)), (2, .int (nI b)), (3, .int (nI e0)), (4, .int (cp))]) hx hb dX3_firstPlace_11 hl (by decide) rfl (fun ls hl => ?_)
  refine lv_iload_n hx hb dX3_firstPlace_13 rfl (lv_at hl 4 rfl) ?_
  refine lv_istore (lv' := [(6, .int (nI e0)), (5, .int ((nI nv) - ((nI b) - (nI a)))), (0, .ref g), (1, .int (nI a)), (2, .int (nI b)), (3, .int (nI e0)), (4, .int (cp))]) hx hb dX3_firstPlace_14 hl (by decide) rfl (fun ls hl => ?_)
  have loop16 : ∀ (nn16 : Nat) (p0 : Nat) (hp0 : p0 ≤ 101) (e9 : fpA fp fv nv cp a b (nv + 1 - (b - a) - p0) p0 = fpF fp fv nv cp a b e0) (_ : 102 - p0 < nn16) (ls : Array Slot) (_ : lv_has ls 7 [(0, .ref g), (1, .int (nI a)), (2, .int (nI b)), (4, .int (cp)), (5, .int ((nI nv) - ((nI b) - (nI a)))), (6, .int (nI p0))]), W p l e rm_c_first s m args below meth c s.heap [] 0 0 Q (F0 m 16 ls []) := by
    intro nn16
    induction nn16 with
    | zero => intro p0 hp0 e9 hm16 ls hl; exact absurd hm16 (Nat.not_lt_zero _)
    | succ nn16 ih16 =>
      intro p0 hp0 e9 hm16 ls hl
      refine lv_iload hx hb dX3_firstPlace_16 (lv_at hl 5 rfl) ?_
      refine lv_iload hx hb dX3_firstPlace_18 (lv_at hl 4 rfl) ?_
      refine lv_icmp_gt (tgt := 45) hx hb dX3_firstPlace_20 (by decide) (fun c20_0 => ?_) (fun c20_0 => ?_)
      · skip
        rw [ti_lt, lat hab (by omega) hv, nI_toInt (by omega)] at c20_0
        have e8 : nv + 1 - (b - a) - p0 = 0 := by omega
        refine lv_iconst (v := -1) hx hb dX3_firstPlace_45 (by decide) ?_
        subst hQ
        exact W.iret (v := (-1)) hx hb hr (fun t ht hW => ⟨_, rfl, (by rw [← e9, e8]; rfl), ht⟩) (fun _ h => absurd h List.not_mem_nil) dX3_firstPlace_46
      · skip
        rw [ti_lt, lat hab (by omega) hv, nI_toInt (by omega)] at c20_0
        refine lv_aload_n hx hb dX3_firstPlace_23 rfl (lv_at hl 0 rfl) ?_
        refine lv_iload_n hx hb dX3_firstPlace_24 rfl (lv_at hl 1 rfl) ?_
        refine lv_iload_n hx hb dX3_firstPlace_25 rfl (lv_at hl 2 rfl) ?_
        refine lv_iload hx hb dX3_firstPlace_26 (lv_at hl 5 rfl) ?_
        refine lv_iload hx hb dX3_firstPlace_28 (lv_at hl 3 rfl) ?_
        refine vp_callSi (va_Run.run (va_runV (As := [.int (nI a), .int (nI b), .int (nI p0), .int (cp)]) (rest := []) ⟨hx, hb, hml, hown, hw⟩ (c_fits l dC dI g rv rk pt sp av ak ap a1 a2 kv kk kp k1 k2 fv fk fp f1 f2 nv nk np ns hv hk hp hs a b p0 cp hab hbp (by omega)) (cwV 4 hw (gV mw168 mw170 mw8 mw16 mw171) rfl rfl rfl (by decide +kernel) ⟨Nat.le_of_ble_eq_true rfl, Nat.le_of_ble_eq_true rfl⟩) (ro.V (q0 := 0) (ci := 3) hN (hK.sub (tys' := [(kv, .int), (kk, .int), (kp, .int), (k1, .int), (k2, .int)]) [0, 1, 2, 3, 4] rfl) (hP.sub (ws' := [(g, .inr (3, [.ref rv, .ref rk, .ref pt, .ref sp])), (rv, .inr (1, [.ref av, .int (nI nv)])), (av, .inl (kv, 100, .inl fv)), (rk, .inr (1, [.ref ak, .int (nI nk)])), (ak, .inl (kk, 100, .inl fk)), (pt, .inr (0, [.ref ap, .int (nI np)])), (ap, .inl (kp, 100, .inl fp)), (sp, .inr (2, [.ref a1, .ref a2, .int (nI ns)])), (a1, .inl (k1, 100, .inl f1)), (a2, .inl (k2, 100, .inl f2))]) [0, 1, 2, 3, 4, 5, 6, 7, 8, 9] rfl) rfl rfl) rfl rfl hl.1 rfl (lv_room (Nat.le_of_ble_eq_true rfl)) dX3_firstPlace_30 ⟨Nat.le_of_ble_eq_true rfl, Nat.le_of_ble_eq_true rfl⟩)) (fun r2 hr2 => ?_)
        subst hr2
        refine lv_if_eq (tgt := 39) hx hb dX3_firstPlace_33 (by decide) (fun c33_2 => ?_) (fun c33_2 => ?_)
        · skip
          have d1 := ifb0 c33_2
          refine lv_iinc (v := nI (p0 + 1)) (lv' := [(6, .int (nI (p0 + 1))), (0, .ref g), (1, .int (nI a)), (2, .int (nI b)), (4, .int (cp)), (5, .int ((nI nv) - ((nI b) - (nI a))))]) hx hb dX3_firstPlace_39 hl (k := 5) rfl (nI_inc p0) (by decide) rfl (fun ls hl => ?_)
          refine lv_goto (tgt := 16) hx hb dX3_firstPlace_42 (by decide) ?_
          exact ih16 (p0 + 1) (by omega) ((fpA_next (k := nv + 1 - (b - a) - p0) (by omega) d1).symm.trans e9) (by omega) ls (lv_sub hl [1, 2, 3, 4, 5, 0] rfl)
        · skip
          have d1 := ifb c33_2
          refine lv_iload hx hb dX3_firstPlace_36 (lv_at hl 5 rfl) ?_
          subst hQ
          exact W.iret (v := (nI p0)) hx hb hr (fun t ht hW => ⟨_, rfl, (by rw [← e9, fpA_hit (by omega) d1]), ht⟩) (fun _ h => absurd h List.not_mem_nil) dX3_firstPlace_38
  exact loop16 (102 - e0 + 1) e0 (by omega) rfl (by omega) ls (lv_sub hl [2, 3, 4, 6, 1, 0] rfl)

abbrev rm_c_stB : Room := { frames := 1, cells := 0, slots := 0, locals := 22 }
set_option maxHeartbeats 4000000 in
set_option maxRecDepth 100000 in
theorem c_stB (l : Launch) (dC : Nat → ClassId) (dI : Nat → Nat → Nat) (g rv rk pt sp av ak ap a1 a2 : Nat) (kv kk kp k1 k2 : ClassId) (fv fk fp f1 f2 : Nat → Int32) (nv nk np ns : Nat) (hv : nv ≤ 100) (hk : nk ≤ 100) (hp : np ≤ 100) (hs : ns ≤ 100) (cp : Int32) : Met l yX3_standingAsBytes (.code yX3_standingAsBytes cX3_standingAsBytes 5 (some (.int)) :: wsA) rm_c_stB (va_Pc [.ref g, .int (cp)] (ro (dC, dI) [(g, .inr (3, [.ref rv, .ref rk, .ref pt, .ref sp])), (rv, .inr (1, [.ref av, .int (nI nv)])), (av, .inl (kv, 100, .inl fv)), (rk, .inr (1, [.ref ak, .int (nI nk)])), (ak, .inl (kk, 100, .inl fk)), (pt, .inr (0, [.ref ap, .int (nI np)])), (ap, .inl (kp, 100, .inl fp)), (sp, .inr (2, [.ref a1, .ref a2, .int (nI ns)])), (a1, .inl (k1, 100, .inl f1)), (a2, .inl (k2, 100, .inl f2))] [(kv, .int), (kk, .int), (kp, .int), (k1, .int), (k2, .int)])) (vp_Si (fun r => r = sbF fv fk nv nk cp)) 0 0 (fun _ => False) := by
  refine Met.ofW (cc := cX3_standingAsBytes) (maxL := 5) (ret := (some (.int))) (by decide) rfl ?_
  intro p e s m args below meth c s₁ B hml hv
  obtain ⟨hargs, hN, hP, hK⟩ := hv
  have hx := B.exec
  have hb := B.bytes
  have hr := B.returns
  have hw : ∀ w ∈ wsA, w.before args s = true := fun w h => atoms_spec (ws := (.code yX3_standingAsBytes cX3_standingAsBytes 5 (some (.int)) :: wsA)) B.pre w (List.mem_cons_of_mem _ h)
  have hown : s.vm.findClass "GlobDesk" = some m.cls := findClass_of_methodNamed B.named
  have hlocks := B.notSynchronized
  generalize hQ : MQ below _ args s _ _ _ = Q
  change W p l e rm_c_stB s m args below meth c s.heap [] 0 0 Q (entryFrame m args 5)
  have hl := lv_entry ([.ref g, .int (cp)]) (n := 5) (Nat.le_of_ble_eq_true rfl)
  rw [show entryFrame m args 5 = entryFrame m ([.ref g, .int (cp)] : List Value).toArray 5 from by rw [hargs], lg_entry_eq]
  generalize (lg_sl ([.ref g, .int (cp)]) ++ List.replicate (5 - (lg_sl ([.ref g, .int (cp)])).length) Slot.unset).toArray = ls at hl ⊢
  have hl : lv_has ls 5 [(0, .ref g), (1, .int (cp))] := hl
  refine lv_aload_n hx hb dX3_standingAsBytes_0 rfl (lv_at hl 0 rfl) ?_
  refine va_get (D := (dC, dI)) (ci := 3) (v := .ref rv) (C := RX3) (T := TX3) (N := 4) hx hb hw inX3 hown hK hP 0 rfl rfl 0 (by decide) (hw _ mw77) (fun _ h9 => h9) rfl dX3_standingAsBytes_1 ?_
  refine va_getN (D := (dC, dI)) (ci := 1) (v := .int (nI nv)) (C := RX1) (T := TX1) (N := 2) hx hb hw inX1 hown hK hP 1 rfl rfl 1 (by decide) (va_Nw.use rfl hN.2.2.1) (fun _ h9 => h9) rfl dX3_standingAsBytes_4 ?_
  refine lv_aload_n hx hb dX3_standingAsBytes_7 rfl (lv_at hl 0 rfl) ?_
  refine va_get (D := (dC, dI)) (ci := 3) (v := .ref rk) (C := RX3) (T := TX3) (N := 4) hx hb hw inX3 hown hK hP 0 rfl rfl 1 (by decide) (hw _ mw78) (fun _ h9 => h9) rfl dX3_standingAsBytes_8 ?_
  refine va_getN (D := (dC, dI)) (ci := 1) (v := .int (nI nk)) (C := RX1) (T := TX1) (N := 2) hx hb hw inX1 hown hK hP 3 rfl rfl 1 (by decide) (va_Nw.use rfl hN.2.2.1) (fun _ h9 => h9) rfl dX3_standingAsBytes_11 ?_
  refine va_mmin hx hb (by rw [hml]; exact hl.1.symm) hown (hw _ mw145) (hw _ mw146) (hw _ mw21) (hw _ mw147) (Nat.le_of_ble_eq_true rfl) (Nat.le_of_ble_eq_true rfl) (Nat.le_of_ble_eq_true rfl) (Nat.le_of_ble_eq_true rfl) dX3_standingAsBytes_14 ?_
  refine lv_topi (fun x1 ex1 => ?_)
  obtain rfl : x1 = nI (min nv nk) := by rw [ex1]; exact min32 hv hk
  refine lv_istore_n (lv' := [(2, .int (nI (min nv nk))), (0, .ref g), (1, .int (cp))]) hx hb dX3_standingAsBytes_17 rfl hl (by decide) rfl (fun ls hl => ?_)
  refine lv_iconst (v := 0) hx hb dX3_standingAsBytes_18 (by decide) ?_
  refine lv_topi (fun x2 ex2 => ?_)
  obtain rfl : x2 = nI 0 := by rw [ex2]; exact nI_0.symm
  refine lv_istore_n (lv' := [(3, .int (nI 0)), (2, .int (nI (min nv nk))), (0, .ref g), (1, .int (cp))]) hx hb dX3_standingAsBytes_19 rfl hl (by decide) rfl (fun ls hl => ?_)
  have loop20 : ∀ (nn20 : Nat) (i : Nat) (hi : i ≤ min nv nk) (e9 : sbA fv fk nv nk cp (min nv nk - i) i = sbF fv fk nv nk cp) (_ : min nv nk - i < nn20) (ls : Array Slot) (_ : lv_has ls 5 [(0, .ref g), (1, .int (cp)), (2, .int (nI (min nv nk))), (3, .int (nI i))]), W p l e rm_c_stB s m args below meth c s.heap [] 0 0 Q (F0 m 20 ls []) := by
    intro nn20
    induction nn20 with
    | zero => intro i hi e9 hm20 ls hl; exact absurd hm20 (Nat.not_lt_zero _)
    | succ nn20 ih20 =>
      intro i hi e9 hm20 ls hl
      refine lv_iload_n hx hb dX3_standingAsBytes_20 rfl (lv_at hl 3 rfl) ?_
      refine lv_iload_n hx hb dX3_standingAsBytes_21 rfl (lv_at hl 2 rfl) ?_
      refine lv_icmp_ge (tgt := 68) hx hb dX3_standingAsBytes_22 (by decide) (fun c22_2 => ?_) (fun c22_2 => ?_)
      · skip
        rw [ti_le, nI_toInt (by omega), nI_toInt (by omega)] at c22_2
        have e8 : i = min nv nk := by omega
        refine lv_aload_n hx hb dX3_standingAsBytes_68 rfl (lv_at hl 0 rfl) ?_
        refine va_get (D := (dC, dI)) (ci := 3) (v := .ref rv) (C := RX3) (T := TX3) (N := 4) hx hb hw inX3 hown hK hP 0 rfl rfl 0 (by decide) (hw _ mw77) (fun _ h9 => h9) rfl dX3_standingAsBytes_69 ?_
        refine va_getN (D := (dC, dI)) (ci := 1) (v := .int (nI nv)) (C := RX1) (T := TX1) (N := 2) hx hb hw inX1 hown hK hP 1 rfl rfl 1 (by decide) (va_Nw.use rfl hN.2.2.1) (fun _ h9 => h9) rfl dX3_standingAsBytes_72 ?_
        refine lv_aload_n hx hb dX3_standingAsBytes_75 rfl (lv_at hl 0 rfl) ?_
        refine va_get (D := (dC, dI)) (ci := 3) (v := .ref rk) (C := RX3) (T := TX3) (N := 4) hx hb hw inX3 hown hK hP 0 rfl rfl 1 (by decide) (hw _ mw78) (fun _ h9 => h9) rfl dX3_standingAsBytes_76 ?_
        refine va_getN (D := (dC, dI)) (ci := 1) (v := .int (nI nk)) (C := RX1) (T := TX1) (N := 2) hx hb hw inX1 hown hK hP 3 rfl rfl 1 (by decide) (va_Nw.use rfl hN.2.2.1) (fun _ h9 => h9) rfl dX3_standingAsBytes_79 ?_
        refine vp_callSi (va_Run.run (va_runS (As := [.int (nI nv), .int (nI nk)]) (rest := []) ⟨hx, hb, hml, hown, hw⟩ (c_sign l (nI nv) (nI nk)) (cwS 2 hw (gS mw129 mw130 mw16 mw131) rfl rfl rfl (by decide +kernel) ⟨Nat.le_of_ble_eq_true rfl, Nat.le_of_ble_eq_true rfl⟩) st.S rfl rfl hl.1 rfl (lv_room (Nat.le_of_ble_eq_true rfl)) dX3_standingAsBytes_82 ⟨Nat.le_of_ble_eq_true rfl, Nat.le_of_ble_eq_true rfl⟩)) (fun r4 hr4 => ?_)
        subst hr4
        subst hQ
        exact W.iret (v := (sg (nI nv) (nI nk))) hx hb hr (fun t ht hW => ⟨_, rfl, (by rw [← e9, e8, Nat.sub_self]; rfl), ht⟩) (fun _ h => absurd h List.not_mem_nil) dX3_standingAsBytes_85
      · skip
        rw [ti_le, nI_toInt (by omega), nI_toInt (by omega)] at c22_2
        refine lv_aload_n hx hb dX3_standingAsBytes_25 rfl (lv_at hl 0 rfl) ?_
        refine va_get (D := (dC, dI)) (ci := 3) (v := .ref rv) (C := RX3) (T := TX3) (N := 4) hx hb hw inX3 hown hK hP 0 rfl rfl 0 (by decide) (hw _ mw77) (fun _ h9 => h9) rfl dX3_standingAsBytes_26 ?_
        refine lv_iload_n hx hb dX3_standingAsBytes_29 rfl (lv_at hl 3 rfl) ?_
        refine vp_callSi (va_Run.run (va_runV (As := [.int (nI i)]) (rest := []) ⟨hx, hb, hml, hown, hw⟩ (c_Row_at l dC dI rv av kv fv nv hv (nI i)) (cwV 1 hw (gV mw140 mw137 mw138 mw17 mw139) rfl rfl rfl (by decide +kernel) ⟨Nat.le_of_ble_eq_true rfl, Nat.le_of_ble_eq_true rfl⟩) (ro.V (q0 := 0) (ci := 1) hN (hK.sub (tys' := [(kv, .int)]) [0] rfl) (hP.sub (ws' := [(rv, .inr (1, [.ref av, .int (nI nv)])), (av, .inl (kv, 100, .inl fv))]) [1, 2] rfl) rfl rfl) rfl rfl hl.1 rfl (lv_room (Nat.le_of_ble_eq_true rfl)) dX3_standingAsBytes_30 ⟨Nat.le_of_ble_eq_true rfl, Nat.le_of_ble_eq_true rfl⟩)) (fun r5 hr5 => ?_)
        rw [ra_in (by omega) hv] at hr5
        subst hr5
        refine lv_iload_n hx hb dX3_standingAsBytes_33 rfl (lv_at hl 1 rfl) ?_
        refine vp_callSi (va_Run.run (va_runS (As := [.int (fv (i)), .int (cp)]) (rest := []) ⟨hx, hb, hml, hown, hw⟩ (c_fold l (fv (i)) (cp)) (cwS 2 hw (gS mw148 mw149 mw16 mw150) rfl rfl rfl (by decide +kernel) ⟨Nat.le_of_ble_eq_true rfl, Nat.le_of_ble_eq_true rfl⟩) st.S rfl rfl hl.1 rfl (lv_room (Nat.le_of_ble_eq_true rfl)) dX3_standingAsBytes_34 ⟨Nat.le_of_ble_eq_true rfl, Nat.le_of_ble_eq_true rfl⟩)) (fun r6 hr6 => ?_)
        subst hr6
        refine lv_aload_n hx hb dX3_standingAsBytes_37 rfl (lv_at hl 0 rfl) ?_
        refine va_get (D := (dC, dI)) (ci := 3) (v := .ref rk) (C := RX3) (T := TX3) (N := 4) hx hb hw inX3 hown hK hP 0 rfl rfl 1 (by decide) (hw _ mw78) (fun _ h9 => h9) rfl dX3_standingAsBytes_38 ?_
        refine lv_iload_n hx hb dX3_standingAsBytes_41 rfl (lv_at hl 3 rfl) ?_
        refine vp_callSi (va_Run.run (va_runV (As := [.int (nI i)]) (rest := [.int (fo (fv (i)) (cp))]) ⟨hx, hb, hml, hown, hw⟩ (c_Row_at l dC dI rk ak kk fk nk hk (nI i)) (cwV 1 hw (gV mw140 mw137 mw138 mw17 mw139) rfl rfl rfl (by decide +kernel) ⟨Nat.le_of_ble_eq_true rfl, Nat.le_of_ble_eq_true rfl⟩) (ro.V (q0 := 0) (ci := 1) hN (hK.sub (tys' := [(kk, .int)]) [1] rfl) (hP.sub (ws' := [(rk, .inr (1, [.ref ak, .int (nI nk)])), (ak, .inl (kk, 100, .inl fk))]) [3, 4] rfl) rfl rfl) rfl rfl hl.1 rfl (lv_room (Nat.le_of_ble_eq_true rfl)) dX3_standingAsBytes_42 ⟨Nat.le_of_ble_eq_true rfl, Nat.le_of_ble_eq_true rfl⟩)) (fun r7 hr7 => ?_)
        rw [ra_in (by omega) hk] at hr7
        subst hr7
        refine lv_iload_n hx hb dX3_standingAsBytes_45 rfl (lv_at hl 1 rfl) ?_
        refine vp_callSi (va_Run.run (va_runS (As := [.int (fk (i)), .int (cp)]) (rest := [.int (fo (fv (i)) (cp))]) ⟨hx, hb, hml, hown, hw⟩ (c_fold l (fk (i)) (cp)) (cwS 2 hw (gS mw148 mw149 mw16 mw150) rfl rfl rfl (by decide +kernel) ⟨Nat.le_of_ble_eq_true rfl, Nat.le_of_ble_eq_true rfl⟩) st.S rfl rfl hl.1 rfl (lv_room (Nat.le_of_ble_eq_true rfl)) dX3_standingAsBytes_46 ⟨Nat.le_of_ble_eq_true rfl, Nat.le_of_ble_eq_true rfl⟩)) (fun r8 hr8 => ?_)
        subst hr8
        refine vp_callSi (va_Run.run (va_runS (As := [.int (fo (fv (i)) (cp)), .int (fo (fk (i)) (cp))]) (rest := []) ⟨hx, hb, hml, hown, hw⟩ (c_sign l (fo (fv (i)) (cp)) (fo (fk (i)) (cp))) (cwS 2 hw (gS mw129 mw130 mw16 mw131) rfl rfl rfl (by decide +kernel) ⟨Nat.le_of_ble_eq_true rfl, Nat.le_of_ble_eq_true rfl⟩) st.S rfl rfl hl.1 rfl (lv_room (Nat.le_of_ble_eq_true rfl)) dX3_standingAsBytes_49 ⟨Nat.le_of_ble_eq_true rfl, Nat.le_of_ble_eq_true rfl⟩)) (fun r9 hr9 => ?_)
        subst hr9
        refine lv_istore (lv' := [(4, .int (sg (fo (fv (i)) (cp)) (fo (fk (i)) (cp)))), (0, .ref g), (1, .int (cp)), (2, .int (nI (min nv nk))), (3, .int (nI i))]) hx hb dX3_standingAsBytes_52 hl (by decide) rfl (fun ls hl => ?_)
        refine lv_iload hx hb dX3_standingAsBytes_54 (lv_at hl 0 rfl) ?_
        refine lv_if_eq (tgt := 62) hx hb dX3_standingAsBytes_56 (by decide) (fun c56_9 => ?_) (fun c56_9 => ?_)
        · skip
          have d1 := c56_9
          refine lv_iinc (v := nI (i + 1)) (lv' := [(3, .int (nI (i + 1))), (4, .int (sg (fo (fv (i)) (cp)) (fo (fk (i)) (cp)))), (0, .ref g), (1, .int (cp)), (2, .int (nI (min nv nk)))]) hx hb dX3_standingAsBytes_62 hl (k := 4) rfl (nI_inc i) (by decide) rfl (fun ls hl => ?_)
          refine lv_goto (tgt := 20) hx hb dX3_standingAsBytes_65 (by decide) ?_
          exact ih20 (i + 1) (by omega) ((sbA_next (r := min nv nk - i) (by omega) d1).symm.trans e9) (by omega) ls (lv_sub hl [2, 3, 4, 0] rfl)
        · skip
          have d1 := c56_9
          refine lv_iload hx hb dX3_standingAsBytes_59 (lv_at hl 0 rfl) ?_
          subst hQ
          exact W.iret (v := (sg (fo (fv (i)) (cp)) (fo (fk (i)) (cp)))) hx hb hr (fun t ht hW => ⟨_, rfl, (by rw [← e9, sbA_hit (by omega) d1]), ht⟩) (fun _ h => absurd h List.not_mem_nil) dX3_standingAsBytes_61
  exact loop20 (min nv nk + 1) 0 (Nat.zero_le _) rfl (by omega) ls (lv_sub hl [2, 3, 1, 0] rfl)
