abbrev rm_c_stN : Room := { frames := 2, cells := 0, slots := 0, locals := 43 }
set_option maxHeartbeats 4000000 in
set_option maxRecDepth 100000 in
theorem c_stN (l : Launch) (dC : Nat → ClassId) (dI : Nat → Nat → Nat) (g rv rk pt sp av ak ap a1 a2 : Nat) (kv kk kp k1 k2 : ClassId) (fv fk fp f1 f2 : Nat → Int32) (nv nk np ns : Nat) (hv : nv ≤ 100) (hk : nk ≤ 100) (hp : np ≤ 100) (hs : ns ≤ 100) : Met l yX3_standingAsNumbers (.code yX3_standingAsNumbers cX3_standingAsNumbers 8 (some (.int)) :: wsA) rm_c_stN (va_Pc [.ref g] (ro (dC, dI) [(g, .inr (3, [.ref rv, .ref rk, .ref pt, .ref sp])), (rv, .inr (1, [.ref av, .int (nI nv)])), (av, .inl (kv, 100, .inl fv)), (rk, .inr (1, [.ref ak, .int (nI nk)])), (ak, .inl (kk, 100, .inl fk)), (pt, .inr (0, [.ref ap, .int (nI np)])), (ap, .inl (kp, 100, .inl fp)), (sp, .inr (2, [.ref a1, .ref a2, .int (nI ns)])), (a1, .inl (k1, 100, .inl f1)), (a2, .inl (k2, 100, .inl f2))] [(kv, .int), (kk, .int), (kp, .int), (k1, .int), (k2, .int)])) (vp_Si (fun r => r = snF fv fk nv nk)) 0 0 (fun _ => False) := by
  refine Met.ofW (cc := cX3_standingAsNumbers) (maxL := 8) (ret := (some (.int))) (by decide) rfl ?_
  intro p e s m args below meth c s₁ B hml hv
  obtain ⟨hargs, hN, hP, hK⟩ := hv
  have hx := B.exec
  have hb := B.bytes
  have hr := B.returns
  have hw : ∀ w ∈ wsA, w.before args s = true := fun w h => atoms_spec (ws := (.code yX3_standingAsNumbers cX3_standingAsNumbers 8 (some (.int)) :: wsA)) B.pre w (List.mem_cons_of_mem _ h)
  have hown : s.vm.findClass "GlobDesk" = some m.cls := findClass_of_methodNamed B.named
  have hlocks := B.notSynchronized
  generalize hQ : MQ below _ args s _ _ _ = Q
  change W p l e rm_c_stN s m args below meth c s.heap [] 0 0 Q (entryFrame m args 8)
  have hl := lv_entry ([.ref g]) (n := 8) (Nat.le_of_ble_eq_true rfl)
  rw [show entryFrame m args 8 = entryFrame m ([.ref g] : List Value).toArray 8 from by rw [hargs], lg_entry_eq]
  generalize (lg_sl ([.ref g]) ++ List.replicate (8 - (lg_sl ([.ref g])).length) Slot.unset).toArray = ls at hl ⊢
  have hl : lv_has ls 8 [(0, .ref g)] := hl
  have hdv := dg_le fv nv
  have hdk := dg_le fk nk
  have hzv := zr_le fv (dg fv nv)
  have hzk := zr_le fk (dg fk nk)
  refine lv_aload_n hx hb dX3_standingAsNumbers_0 rfl (lv_at hl 0 rfl) ?_
  refine va_get (D := (dC, dI)) (ci := 3) (v := .ref rv) (C := RX3) (T := TX3) (N := 4) hx hb hw inX3 hown hK hP 0 rfl rfl 0 (by decide) (hw _ mw77) (fun _ h9 => h9) rfl dX3_standingAsNumbers_1 ?_
  refine vp_callSi (va_Run.run (va_runV (As := []) (rest := []) ⟨hx, hb, hml, hown, hw⟩ (c_Row_digits l dC dI rv av kv fv nv hv) (cwV 0 hw (gV mw125 mw126 mw127 mw17 mw128) rfl rfl rfl (by decide +kernel) ⟨Nat.le_of_ble_eq_true rfl, Nat.le_of_ble_eq_true rfl⟩) (ro.V (q0 := 0) (ci := 1) hN (hK.sub (tys' := [(kv, .int)]) [0] rfl) (hP.sub (ws' := [(rv, .inr (1, [.ref av, .int (nI nv)])), (av, .inl (kv, 100, .inl fv))]) [1, 2] rfl) rfl rfl) rfl rfl hl.1 rfl (lv_room (Nat.le_of_ble_eq_true rfl)) dX3_standingAsNumbers_4 ⟨Nat.le_of_ble_eq_true rfl, Nat.le_of_ble_eq_true rfl⟩)) (fun r1 hr1 => ?_)
  subst hr1
  refine lv_istore_n (lv' := [(1, .int (nI (dg fv nv))), (0, .ref g)]) hx hb dX3_standingAsNumbers_7 rfl hl (by decide) rfl (fun ls hl => ?_)
  refine lv_aload_n hx hb dX3_standingAsNumbers_8 rfl (lv_at hl 1 rfl) ?_
  refine va_get (D := (dC, dI)) (ci := 3) (v := .ref rk) (C := RX3) (T := TX3) (N := 4) hx hb hw inX3 hown hK hP 0 rfl rfl 1 (by decide) (hw _ mw78) (fun _ h9 => h9) rfl dX3_standingAsNumbers_9 ?_
  refine vp_callSi (va_Run.run (va_runV (As := []) (rest := []) ⟨hx, hb, hml, hown, hw⟩ (c_Row_digits l dC dI rk ak kk fk nk hk) (cwV 0 hw (gV mw125 mw126 mw127 mw17 mw128) rfl rfl rfl (by decide +kernel) ⟨Nat.le_of_ble_eq_true rfl, Nat.le_of_ble_eq_true rfl⟩) (ro.V (q0 := 0) (ci := 1) hN (hK.sub (tys' := [(kk, .int)]) [1] rfl) (hP.sub (ws' := [(rk, .inr (1, [.ref ak, .int (nI nk)])), (ak, .inl (kk, 100, .inl fk))]) [3, 4] rfl) rfl rfl) rfl rfl hl.1 rfl (lv_room (Nat.le_of_ble_eq_true rfl)) dX3_standingAsNumbers_12 ⟨Nat.le_of_ble_eq_true rfl, Nat.le_of_ble_eq_true rfl⟩)) (fun r2 hr2 => ?_)
  subst hr2
  refine lv_istore_n (lv' := [(2, .int (nI (dg fk nk))), (1, .int (nI (dg fv nv))), (0, .ref g)]) hx hb dX3_standingAsNumbers_15 rfl hl (by decide) rfl (fun ls hl => ?_)
  refine lv_iload_n hx hb dX3_standingAsNumbers_16 rfl (lv_at hl 1 rfl) ?_
  refine lv_if_eq (tgt := 24) hx hb dX3_standingAsNumbers_17 (by decide) (fun c17_2 => ?_) (fun c17_2 => ?_)
  · skip
    have za : dg fv nv = 0 := by rw [ti_eq, nI_toInt (by omega), tc_0] at c17_2; omega
    refine lv_iload_n hx hb dX3_standingAsNumbers_24 rfl (lv_at hl 1 rfl) ?_
    refine lv_if_ne (tgt := 32) hx hb dX3_standingAsNumbers_25 (by decide) (fun c25_3 => ?_) (fun c25_3 => ?_)
    · skip
      exact absurd (by rw [ti_eq, nI_toInt (by omega), tc_0]; omega) c25_3
    · skip
      have za : dg fv nv = 0 := by rw [ti_eq, nI_toInt (by omega), tc_0] at c25_3; omega
      refine lv_iconst (v := 1) hx hb dX3_standingAsNumbers_28 (by decide) ?_
      refine lv_goto (tgt := 33) hx hb dX3_standingAsNumbers_29 (by decide) ?_
      refine lv_iload_n hx hb dX3_standingAsNumbers_33 rfl (lv_at hl 0 rfl) ?_
      refine lv_if_ne (tgt := 41) hx hb dX3_standingAsNumbers_34 (by decide) (fun c34_4 => ?_) (fun c34_4 => ?_)
      · skip
        have zb : ¬ dg fk nk = 0 := by rw [ti_eq, nI_toInt (by omega), tc_0] at c34_4; omega
        refine lv_iconst (v := 0) hx hb dX3_standingAsNumbers_41 (by decide) ?_
        refine vp_callSi (va_Run.run (va_runS (As := [.int (1), .int (0)]) (rest := []) ⟨hx, hb, hml, hown, hw⟩ (c_sign l (1) (0)) (cwS 2 hw (gS mw129 mw130 mw16 mw131) rfl rfl rfl (by decide +kernel) ⟨Nat.le_of_ble_eq_true rfl, Nat.le_of_ble_eq_true rfl⟩) st.S rfl rfl hl.1 rfl (lv_room (Nat.le_of_ble_eq_true rfl)) dX3_standingAsNumbers_42 ⟨Nat.le_of_ble_eq_true rfl, Nat.le_of_ble_eq_true rfl⟩)) (fun r6 hr6 => ?_)
        subst hr6
        subst hQ
        exact W.iret (v := (sg (1) (0))) hx hb hr (fun t ht hW => ⟨_, rfl, (by unfold snF; rw [if_pos (by omega)]; first | (rw [if_pos (by omega)]; decide) | (rw [if_neg (by omega), if_pos (by omega)]; decide) | (rw [if_neg (by omega), if_neg (by omega)]; decide)), ht⟩) (fun _ h => absurd h List.not_mem_nil) dX3_standingAsNumbers_45
      · skip
        have zb : dg fk nk = 0 := by rw [ti_eq, nI_toInt (by omega), tc_0] at c34_4; omega
        refine lv_iconst (v := 1) hx hb dX3_standingAsNumbers_37 (by decide) ?_
        refine lv_goto (tgt := 42) hx hb dX3_standingAsNumbers_38 (by decide) ?_
        refine vp_callSi (va_Run.run (va_runS (As := [.int (1), .int (1)]) (rest := []) ⟨hx, hb, hml, hown, hw⟩ (c_sign l (1) (1)) (cwS 2 hw (gS mw129 mw130 mw16 mw131) rfl rfl rfl (by decide +kernel) ⟨Nat.le_of_ble_eq_true rfl, Nat.le_of_ble_eq_true rfl⟩) st.S rfl rfl hl.1 rfl (lv_room (Nat.le_of_ble_eq_true rfl)) dX3_standingAsNumbers_42 ⟨Nat.le_of_ble_eq_true rfl, Nat.le_of_ble_eq_true rfl⟩)) (fun r7 hr7 => ?_)
        subst hr7
        subst hQ
        exact W.iret (v := (sg (1) (1))) hx hb hr (fun t ht hW => ⟨_, rfl, (by unfold snF; rw [if_pos (by omega)]; first | (rw [if_pos (by omega)]; decide) | (rw [if_neg (by omega), if_pos (by omega)]; decide) | (rw [if_neg (by omega), if_neg (by omega)]; decide)), ht⟩) (fun _ h => absurd h List.not_mem_nil) dX3_standingAsNumbers_45
  · skip
    have za : ¬ dg fv nv = 0 := by rw [ti_eq, nI_toInt (by omega), tc_0] at c17_2; omega
    refine lv_iload_n hx hb dX3_standingAsNumbers_20 rfl (lv_at hl 0 rfl) ?_
    refine lv_if_ne (tgt := 46) hx hb dX3_standingAsNumbers_21 (by decide) (fun c21_7 => ?_) (fun c21_7 => ?_)
    · skip
      have zb : ¬ dg fk nk = 0 := by rw [ti_eq, nI_toInt (by omega), tc_0] at c21_7; omega
      refine lv_aload_n hx hb dX3_standingAsNumbers_46 rfl (lv_at hl 2 rfl) ?_
      refine va_get (D := (dC, dI)) (ci := 3) (v := .ref rv) (C := RX3) (T := TX3) (N := 4) hx hb hw inX3 hown hK hP 0 rfl rfl 0 (by decide) (hw _ mw77) (fun _ h9 => h9) rfl dX3_standingAsNumbers_47 ?_
      refine lv_iload_n hx hb dX3_standingAsNumbers_50 rfl (lv_at hl 1 rfl) ?_
      refine vp_callSi (va_Run.run (va_runV (As := [.int (nI (dg fv nv))]) (rest := []) ⟨hx, hb, hml, hown, hw⟩ (c_Row_zeros l dC dI rv av kv fv nv hv (dg fv nv) (dg_le fv nv)) (cwV 1 hw (gV mw132 mw133 mw134 mw17 mw135) rfl rfl rfl (by decide +kernel) ⟨Nat.le_of_ble_eq_true rfl, Nat.le_of_ble_eq_true rfl⟩) (ro.V (q0 := 0) (ci := 1) hN (hK.sub (tys' := [(kv, .int)]) [0] rfl) (hP.sub (ws' := [(rv, .inr (1, [.ref av, .int (nI nv)])), (av, .inl (kv, 100, .inl fv))]) [1, 2] rfl) rfl rfl) rfl rfl hl.1 rfl (lv_room (Nat.le_of_ble_eq_true rfl)) dX3_standingAsNumbers_51 ⟨Nat.le_of_ble_eq_true rfl, Nat.le_of_ble_eq_true rfl⟩)) (fun r9 hr9 => ?_)
      subst hr9
      refine lv_istore_n (lv' := [(3, .int (nI (zr fv (dg fv nv)))), (2, .int (nI (dg fk nk))), (1, .int (nI (dg fv nv))), (0, .ref g)]) hx hb dX3_standingAsNumbers_54 rfl hl (by decide) rfl (fun ls hl => ?_)
      refine lv_aload_n hx hb dX3_standingAsNumbers_55 rfl (lv_at hl 3 rfl) ?_
      refine va_get (D := (dC, dI)) (ci := 3) (v := .ref rk) (C := RX3) (T := TX3) (N := 4) hx hb hw inX3 hown hK hP 0 rfl rfl 1 (by decide) (hw _ mw78) (fun _ h9 => h9) rfl dX3_standingAsNumbers_56 ?_
      refine lv_iload_n hx hb dX3_standingAsNumbers_59 rfl (lv_at hl 1 rfl) ?_
      refine vp_callSi (va_Run.run (va_runV (As := [.int (nI (dg fk nk))]) (rest := []) ⟨hx, hb, hml, hown, hw⟩ (c_Row_zeros l dC dI rk ak kk fk nk hk (dg fk nk) (dg_le fk nk)) (cwV 1 hw (gV mw132 mw133 mw134 mw17 mw135) rfl rfl rfl (by decide +kernel) ⟨Nat.le_of_ble_eq_true rfl, Nat.le_of_ble_eq_true rfl⟩) (ro.V (q0 := 0) (ci := 1) hN (hK.sub (tys' := [(kk, .int)]) [1] rfl) (hP.sub (ws' := [(rk, .inr (1, [.ref ak, .int (nI nk)])), (ak, .inl (kk, 100, .inl fk))]) [3, 4] rfl) rfl rfl) rfl rfl hl.1 rfl (lv_room (Nat.le_of_ble_eq_true rfl)) dX3_standingAsNumbers_60 ⟨Nat.le_of_ble_eq_true rfl, Nat.le_of_ble_eq_true rfl⟩)) (fun r10 hr10 => ?_)
      subst hr10
      refine lv_istore (lv' := [(4, .int (nI (zr fk (dg fk nk)))), (3, .int (nI (zr fv (dg fv nv)))), (2, .int (nI (dg fk nk))), (1, .int (nI (dg fv nv))), (0, .ref g)]) hx hb dX3_standingAsNumbers_63 hl (by decide) rfl (fun ls hl => ?_)
      refine lv_iload_n hx hb dX3_standingAsNumbers_65 rfl (lv_at hl 3 rfl) ?_
      refine lv_iload_n hx hb dX3_standingAsNumbers_66 rfl (lv_at hl 1 rfl) ?_
      refine lv_isub hx hb dX3_standingAsNumbers_67 ?_
      refine lv_topi (fun x11 ex11 => ?_)
      obtain rfl : x11 = nI (dg fv nv - zr fv (dg fv nv)) := by rw [ex11, pk_sub hzv]
      refine lv_istore (lv' := [(5, .int (nI (dg fv nv - zr fv (dg fv nv)))), (4, .int (nI (zr fk (dg fk nk)))), (3, .int (nI (zr fv (dg fv nv)))), (2, .int (nI (dg fk nk))), (1, .int (nI (dg fv nv))), (0, .ref g)]) hx hb dX3_standingAsNumbers_68 hl (by decide) rfl (fun ls hl => ?_)
      refine lv_iload hx hb dX3_standingAsNumbers_70 (lv_at hl 0 rfl) ?_
      refine lv_iload_n hx hb dX3_standingAsNumbers_72 rfl (lv_at hl 3 rfl) ?_
      refine lv_iload hx hb dX3_standingAsNumbers_73 (lv_at hl 1 rfl) ?_
      refine lv_isub hx hb dX3_standingAsNumbers_75 ?_
      refine lv_topi (fun x12 ex12 => ?_)
      obtain rfl : x12 = nI (dg fk nk - zr fk (dg fk nk)) := by rw [ex12, pk_sub hzk]
      refine vp_callSi (va_Run.run (va_runS (As := [.int (nI (dg fv nv - zr fv (dg fv nv))), .int (nI (dg fk nk - zr fk (dg fk nk)))]) (rest := []) ⟨hx, hb, hml, hown, hw⟩ (c_sign l (nI (dg fv nv - zr fv (dg fv nv))) (nI (dg fk nk - zr fk (dg fk nk)))) (cwS 2 hw (gS mw129 mw130 mw16 mw131) rfl rfl rfl (by decide +kernel) ⟨Nat.le_of_ble_eq_true rfl, Nat.le_of_ble_eq_true rfl⟩) st.S rfl rfl hl.1 rfl (lv_room (Nat.le_of_ble_eq_true rfl)) dX3_standingAsNumbers_76 ⟨Nat.le_of_ble_eq_true rfl, Nat.le_of_ble_eq_true rfl⟩)) (fun r13 hr13 => ?_)
      subst hr13
      refine lv_istore (lv' := [(6, .int (sg (nI (dg fv nv - zr fv (dg fv nv))) (nI (dg fk nk - zr fk (dg fk nk))))), (5, .int (nI (dg fv nv - zr fv (dg fv nv)))), (4, .int (nI (zr fk (dg fk nk)))), (3, .int (nI (zr fv (dg fv nv)))), (2, .int (nI (dg fk nk))), (1, .int (nI (dg fv nv))), (0, .ref g)]) hx hb dX3_standingAsNumbers_79 hl (by decide) rfl (fun ls hl => ?_)
      refine lv_iconst (v := 0) hx hb dX3_standingAsNumbers_81 (by decide) ?_
      refine lv_topi (fun x14 ex14 => ?_)
      obtain rfl : x14 = nI 0 := by rw [ex14]; exact nI_0.symm
      refine lv_istore (lv' := [(7, .int (nI 0)), (6, .int (sg (nI (dg fv nv - zr fv (dg fv nv))) (nI (dg fk nk - zr fk (dg fk nk))))), (5, .int (nI (dg fv nv - zr fv (dg fv nv)))), (4, .int (nI (zr fk (dg fk nk)))), (3, .int (nI (zr fv (dg fv nv)))), (2, .int (nI (dg fk nk))), (1, .int (nI (dg fv nv))), (0, .ref g)]) hx hb dX3_standingAsNumbers_82 hl (by decide) rfl (fun ls hl => ?_)
      have loop84 : ∀ (nn84 : Nat) (i : Nat) (x : Int32) (hi : i ≤ dg fv nv - zr fv (dg fv nv)) (hs0 : x = 0 → dg fv nv - zr fv (dg fv nv) = dg fk nk - zr fk (dg fk nk)) (e9 : (if x = 0 then snA fv fk (dg fv nv - zr fv (dg fv nv) - i) (zr fv (dg fv nv) + i) (zr fk (dg fk nk) + i) else x) = snF fv fk nv nk) (_ : dg fv nv - i < nn84) (ls : Array Slot) (_ : lv_has ls 8 [(0, .ref g), (3, .int (nI (zr fv (dg fv nv)))), (4, .int (nI (zr fk (dg fk nk)))), (5, .int (nI (dg fv nv - zr fv (dg fv nv)))), (6, .int (x)), (7, .int (nI i))]), W p l e rm_c_stN s m args below meth c s.heap [] 0 0 Q (F0 m 84 ls []) := by
        intro nn84
        induction nn84 with
        | zero => intro i x hi hs0 e9 hm84 ls hl; exact absurd hm84 (Nat.not_lt_zero _)
        | succ nn84 ih84 =>
          intro i x hi hs0 e9 hm84 ls hl
          refine lv_iload hx hb dX3_standingAsNumbers_84 (lv_at hl 5 rfl) ?_
          refine lv_iload hx hb dX3_standingAsNumbers_86 (lv_at hl 3 rfl) ?_
          refine lv_icmp_ge (tgt := 130) hx hb dX3_standingAsNumbers_88 (by decide) (fun c88_14 => ?_) (fun c88_14 => ?_)
          · skip
            rw [ti_le, nI_toInt (by omega), nI_toInt (by omega)] at c88_14
            have e8 : i = dg fv nv - zr fv (dg fv nv) := by omega
            refine lv_iload hx hb dX3_standingAsNumbers_130 (lv_at hl 4 rfl) ?_
            subst hQ
            exact W.iret (v := x) hx hb hr (fun t ht hW => ⟨_, rfl, (by rw [← e9]; first | (rw [if_neg d1]; done) | (rw [e8, Nat.sub_self]; exact sn_end)), ht⟩) (fun _ h => absurd h List.not_mem_nil) dX3_standingAsNumbers_132
          · skip
            rw [ti_le, nI_toInt (by omega), nI_toInt (by omega)] at c88_14
            refine lv_iload hx hb dX3_standingAsNumbers_91 (lv_at hl 4 rfl) ?_
            refine lv_if_ne (tgt := 130) hx hb dX3_standingAsNumbers_93 (by decide) (fun c93_15 => ?_) (fun c93_15 => ?_)
            · skip
              have d1 := c93_15
              refine lv_iload hx hb dX3_standingAsNumbers_130 (lv_at hl 4 rfl) ?_
              subst hQ
              exact W.iret (v := x) hx hb hr (fun t ht hW => ⟨_, rfl, (by rw [← e9]; first | (rw [if_neg d1]; done) | (rw [e8, Nat.sub_self]; exact sn_end)), ht⟩) (fun _ h => absurd h List.not_mem_nil) dX3_standingAsNumbers_132
            · skip
              have d1 := c93_15
              have d2 := hs0 d1
              refine lv_aload_n hx hb dX3_standingAsNumbers_96 rfl (lv_at hl 0 rfl) ?_
              refine va_get (D := (dC, dI)) (ci := 3) (v := .ref rv) (C := RX3) (T := TX3) (N := 4) hx hb hw inX3 hown hK hP 0 rfl rfl 0 (by decide) (hw _ mw77) (fun _ h9 => h9) rfl dX3_standingAsNumbers_97 ?_
              refine lv_iload_n hx hb dX3_standingAsNumbers_100 rfl (lv_at hl 1 rfl) ?_
              refine lv_iload hx hb dX3_standingAsNumbers_101 (lv_at hl 5 rfl) ?_
              refine lv_iadd hx hb dX3_standingAsNumbers_103 ?_
              refine lv_topi (fun x17 ex17 => ?_)
              obtain rfl : x17 = nI (zr fv (dg fv nv) + i) := by rw [ex17, nI_add]
              refine vp_callSi (va_Run.run (va_runV (As := [.int (nI (zr fv (dg fv nv) + i))]) (rest := []) ⟨hx, hb, hml, hown, hw⟩ (c_Row_at l dC dI rv av kv fv nv hv (nI (zr fv (dg fv nv) + i))) (cwV 1 hw (gV mw140 mw137 mw138 mw17 mw139) rfl rfl rfl (by decide +kernel) ⟨Nat.le_of_ble_eq_true rfl, Nat.le_of_ble_eq_true rfl⟩) (ro.V (q0 := 0) (ci := 1) hN (hK.sub (tys' := [(kv, .int)]) [0] rfl) (hP.sub (ws' := [(rv, .inr (1, [.ref av, .int (nI nv)])), (av, .inl (kv, 100, .inl fv))]) [1, 2] rfl) rfl rfl) rfl rfl hl.1 rfl (lv_room (Nat.le_of_ble_eq_true rfl)) dX3_standingAsNumbers_104 ⟨Nat.le_of_ble_eq_true rfl, Nat.le_of_ble_eq_true rfl⟩)) (fun r18 hr18 => ?_)
              rw [ra_in (by omega) hv] at hr18
              subst hr18
              refine lv_aload_n hx hb dX3_standingAsNumbers_107 rfl (lv_at hl 0 rfl) ?_
              refine va_get (D := (dC, dI)) (ci := 3) (v := .ref rk) (C := RX3) (T := TX3) (N := 4) hx hb hw inX3 hown hK hP 0 rfl rfl 1 (by decide) (hw _ mw78) (fun _ h9 => h9) rfl dX3_standingAsNumbers_108 ?_
              refine lv_iload hx hb dX3_standingAsNumbers_111 (lv_at hl 2 rfl) ?_
              refine lv_iload hx hb dX3_standingAsNumbers_113 (lv_at hl 5 rfl) ?_
              refine lv_iadd hx hb dX3_standingAsNumbers_115 ?_
              refine lv_topi (fun x19 ex19 => ?_)
              obtain rfl : x19 = nI (zr fk (dg fk nk) + i) := by rw [ex19, nI_add]
              refine vp_callSi (va_Run.run (va_runV (As := [.int (nI (zr fk (dg fk nk) + i))]) (rest := [.int (fv (zr fv (dg fv nv) + i))]) ⟨hx, hb, hml, hown, hw⟩ (c_Row_at l dC dI rk ak kk fk nk hk (nI (zr fk (dg fk nk) + i))) (cwV 1 hw (gV mw140 mw137 mw138 mw17 mw139) rfl rfl rfl (by decide +kernel) ⟨Nat.le_of_ble_eq_true rfl, Nat.le_of_ble_eq_true rfl⟩) (ro.V (q0 := 0) (ci := 1) hN (hK.sub (tys' := [(kk, .int)]) [1] rfl) (hP.sub (ws' := [(rk, .inr (1, [.ref ak, .int (nI nk)])), (ak, .inl (kk, 100, .inl fk))]) [3, 4] rfl) rfl rfl) rfl rfl hl.1 rfl (lv_room (Nat.le_of_ble_eq_true rfl)) dX3_standingAsNumbers_116 ⟨Nat.le_of_ble_eq_true rfl, Nat.le_of_ble_eq_true rfl⟩)) (fun r20 hr20 => ?_)
              rw [ra_in (by omega) hk] at hr20
              subst hr20
              refine vp_callSi (va_Run.run (va_runS (As := [.int (fv (zr fv (dg fv nv) + i)), .int (fk (zr fk (dg fk nk) + i))]) (rest := []) ⟨hx, hb, hml, hown, hw⟩ (c_sign l (fv (zr fv (dg fv nv) + i)) (fk (zr fk (dg fk nk) + i))) (cwS 2 hw (gS mw129 mw130 mw16 mw131) rfl rfl rfl (by decide +kernel) ⟨Nat.le_of_ble_eq_true rfl, Nat.le_of_ble_eq_true rfl⟩) st.S rfl rfl hl.1 rfl (lv_room (Nat.le_of_ble_eq_true rfl)) dX3_standingAsNumbers_119 ⟨Nat.le_of_ble_eq_true rfl, Nat.le_of_ble_eq_true rfl⟩)) (fun r21 hr21 => ?_)
              subst hr21
              refine lv_istore (lv' := [(6, .int (sg (fv (zr fv (dg fv nv) + i)) (fk (zr fk (dg fk nk) + i)))), (0, .ref g), (3, .int (nI (zr fv (dg fv nv)))), (4, .int (nI (zr fk (dg fk nk)))), (5, .int (nI (dg fv nv - zr fv (dg fv nv)))), (7, .int (nI i))]) hx hb dX3_standingAsNumbers_122 hl (by decide) rfl (fun ls hl => ?_)
              refine lv_iinc (v := nI (i + 1)) (lv' := [(7, .int (nI (i + 1))), (6, .int (sg (fv (zr fv (dg fv nv) + i)) (fk (zr fk (dg fk nk) + i)))), (0, .ref g), (3, .int (nI (zr fv (dg fv nv)))), (4, .int (nI (zr fk (dg fk nk)))), (5, .int (nI (dg fv nv - zr fv (dg fv nv))))]) hx hb dX3_standingAsNumbers_124 hl (k := 5) rfl (nI_inc i) (by decide) rfl (fun ls hl => ?_)
              refine lv_goto (tgt := 84) hx hb dX3_standingAsNumbers_127 (by decide) ?_
              exact ih84 (i + 1) _ (by omega) (fun _ => d2) (by rw [← e9, if_pos d1]; exact sn_next (r := dg fv nv - zr fv (dg fv nv) - i) (by omega)) (by omega) ls (lv_sub hl [2, 3, 4, 5, 1, 0] rfl)
      exact loop84 (dg fv nv + 1) 0 _ (Nat.zero_le _) (fun h => (nI_eq (by omega) (by omega)).mp (sg_0.mp h)) (by unfold snF; exact (if_neg (by omega)).symm) (by omega) ls (lv_sub hl [7, 4, 3, 2, 1, 0] rfl)
    · skip
      have zb : dg fk nk = 0 := by rw [ti_eq, nI_toInt (by omega), tc_0] at c21_7; omega
      refine lv_iload_n hx hb dX3_standingAsNumbers_24 rfl (lv_at hl 1 rfl) ?_
      refine lv_if_ne (tgt := 32) hx hb dX3_standingAsNumbers_25 (by decide) (fun c25_21 => ?_) (fun c25_21 => ?_)
      · skip
        have za : ¬ dg fv nv = 0 := by rw [ti_eq, nI_toInt (by omega), tc_0] at c25_21; omega
        refine lv_iconst (v := 0) hx hb dX3_standingAsNumbers_32 (by decide) ?_
        refine lv_iload_n hx hb dX3_standingAsNumbers_33 rfl (lv_at hl 0 rfl) ?_
        refine lv_if_ne (tgt := 41) hx hb dX3_standingAsNumbers_34 (by decide) (fun c34_22 => ?_) (fun c34_22 => ?_)
        · skip
          exact absurd (by rw [ti_eq, nI_toInt (by omega), tc_0]; omega) c34_22
        · skip
          have zb : dg fk nk = 0 := by rw [ti_eq, nI_toInt (by omega), tc_0] at c34_22; omega
          refine lv_iconst (v := 1) hx hb dX3_standingAsNumbers_37 (by decide) ?_
          refine lv_goto (tgt := 42) hx hb dX3_standingAsNumbers_38 (by decide) ?_
          refine vp_callSi (va_Run.run (va_runS (As := [.int (0), .int (1)]) (rest := []) ⟨hx, hb, hml, hown, hw⟩ (c_sign l (0) (1)) (cwS 2 hw (gS mw129 mw130 mw16 mw131) rfl rfl rfl (by decide +kernel) ⟨Nat.le_of_ble_eq_true rfl, Nat.le_of_ble_eq_true rfl⟩) st.S rfl rfl hl.1 rfl (lv_room (Nat.le_of_ble_eq_true rfl)) dX3_standingAsNumbers_42 ⟨Nat.le_of_ble_eq_true rfl, Nat.le_of_ble_eq_true rfl⟩)) (fun r24 hr24 => ?_)
          subst hr24
          subst hQ
          exact W.iret (v := (sg (0) (1))) hx hb hr (fun t ht hW => ⟨_, rfl, (by unfold snF; rw [if_pos (by omega)]; first | (rw [if_pos (by omega)]; decide) | (rw [if_neg (by omega), if_pos (by omega)]; decide) | (rw [if_neg (by omega), if_neg (by omega)]; decide)), ht⟩) (fun _ h => absurd h List.not_mem_nil) dX3_standingAsNumbers_45
      · skip
        exact absurd c25_21 (by rw [ti_eq, nI_toInt (by omega), tc_0]; omega)

abbrev rm_c_st : Room := { frames := 3, cells := 0, slots := 0, locals := 70 }
set_option maxHeartbeats 4000000 in
set_option maxRecDepth 100000 in
theorem c_st (l : Launch) (dC : Nat → ClassId) (dI : Nat → Nat → Nat) (g rv rk pt sp av ak ap a1 a2 : Nat) (kv kk kp k1 k2 : ClassId) (fv fk fp f1 f2 : Nat → Int32) (nv nk np ns : Nat) (hv : nv ≤ 100) (hk : nk ≤ 100) (hp : np ≤ 100) (hs : ns ≤ 100) (cp : Int32) : Met l yX3_standing (.code yX3_standing cX3_standing 2 (some (.int)) :: wsA) rm_c_st (va_Pc [.ref g, .int (cp)] (ro (dC, dI) [(g, .inr (3, [.ref rv, .ref rk, .ref pt, .ref sp])), (rv, .inr (1, [.ref av, .int (nI nv)])), (av, .inl (kv, 100, .inl fv)), (rk, .inr (1, [.ref ak, .int (nI nk)])), (ak, .inl (kk, 100, .inl fk)), (pt, .inr (0, [.ref ap, .int (nI np)])), (ap, .inl (kp, 100, .inl fp)), (sp, .inr (2, [.ref a1, .ref a2, .int (nI ns)])), (a1, .inl (k1, 100, .inl f1)), (a2, .inl (k2, 100, .inl f2))] [(kv, .int), (kk, .int), (kp, .int), (k1, .int), (k2, .int)])) (vp_Si (fun r => r = stF fv fk nv nk cp)) 0 0 (fun _ => False) := by
  refine Met.ofW (cc := cX3_standing) (maxL := 2) (ret := (some (.int))) (by decide) rfl ?_
  intro p e s m args below meth c s₁ B hml hv
  obtain ⟨hargs, hN, hP, hK⟩ := hv
  have hx := B.exec
  have hb := B.bytes
  have hr := B.returns
  have hw : ∀ w ∈ wsA, w.before args s = true := fun w h => atoms_spec (ws := (.code yX3_standing cX3_standing 2 (some (.int)) :: wsA)) B.pre w (List.mem_cons_of_mem _ h)
  have hown : s.vm.findClass "GlobDesk" = some m.cls := findClass_of_methodNamed B.named
  have hlocks := B.notSynchronized
  generalize hQ : MQ below _ args s _ _ _ = Q
  change W p l e rm_c_st s m args below meth c s.heap [] 0 0 Q (entryFrame m args 2)
  have hl := lv_entry ([.ref g, .int (cp)]) (n := 2) (Nat.le_of_ble_eq_true rfl)
  rw [show entryFrame m args 2 = entryFrame m ([.ref g, .int (cp)] : List Value).toArray 2 from by rw [hargs], lg_entry_eq]
  generalize (lg_sl ([.ref g, .int (cp)]) ++ List.replicate (2 - (lg_sl ([.ref g, .int (cp)])).length) Slot.unset).toArray = ls at hl ⊢
  have hl : lv_has ls 2 [(0, .ref g), (1, .int (cp))] := hl
  refine lv_iload_n hx hb dX3_standing_0 rfl (lv_at hl 1 rfl) ?_
  refine lv_iconst (v := 2) hx hb dX3_standing_1 (by decide) ?_
  refine lv_icmp_ne (tgt := 12) hx hb dX3_standing_2 (by decide) (fun c2_0 => ?_) (fun c2_0 => ?_)
  · skip
    have q1 := c2_0
    refine lv_aload_n hx hb dX3_standing_12 rfl (lv_at hl 0 rfl) ?_
    refine lv_iload_n hx hb dX3_standing_13 rfl (lv_at hl 1 rfl) ?_
    refine vp_callSi (va_Run.run (va_runV (As := [.int (cp)]) (rest := []) ⟨hx, hb, hml, hown, hw⟩ (c_stB l dC dI g rv rk pt sp av ak ap a1 a2 kv kk kp k1 k2 fv fk fp f1 f2 nv nk np ns hv hk hp hs cp) (cwV 1 hw (gV mw141 mw143 mw4 mw16 mw144) rfl rfl rfl (by decide +kernel) ⟨Nat.le_of_ble_eq_true rfl, Nat.le_of_ble_eq_true rfl⟩) (ro.V (q0 := 0) (ci := 3) hN (hK.sub (tys' := [(kv, .int), (kk, .int), (kp, .int), (k1, .int), (k2, .int)]) [0, 1, 2, 3, 4] rfl) (hP.sub (ws' := [(g, .inr (3, [.ref rv, .ref rk, .ref pt, .ref sp])), (rv, .inr (1, [.ref av, .int (nI nv)])), (av, .inl (kv, 100, .inl fv)), (rk, .inr (1, [.ref ak, .int (nI nk)])), (ak, .inl (kk, 100, .inl fk)), (pt, .inr (0, [.ref ap, .int (nI np)])), (ap, .inl (kp, 100, .inl fp)), (sp, .inr (2, [.ref a1, .ref a2, .int (nI ns)])), (a1, .inl (k1, 100, .inl f1)), (a2, .inl (k2, 100, .inl f2))]) [0, 1, 2, 3, 4, 5, 6, 7, 8, 9] rfl) rfl rfl) rfl rfl hl.1 rfl (lv_room (Nat.le_of_ble_eq_true rfl)) dX3_standing_14 ⟨Nat.le_of_ble_eq_true rfl, Nat.le_of_ble_eq_true rfl⟩)) (fun r2 hr2 => ?_)
    subst hr2
    subst hQ
    exact W.iret (v := (sbF fv fk nv nk cp)) hx hb hr (fun t ht hW => ⟨_, rfl, (by unfold stF; first | rw [if_pos q1] | rw [if_neg q1]), ht⟩) (fun _ h => absurd h List.not_mem_nil) dX3_standing_17
  · skip
    have q1 := c2_0
    refine lv_aload_n hx hb dX3_standing_5 rfl (lv_at hl 0 rfl) ?_
    refine vp_callSi (va_Run.run (va_runV (As := []) (rest := []) ⟨hx, hb, hml, hown, hw⟩ (c_stN l dC dI g rv rk pt sp av ak ap a1 a2 kv kk kp k1 k2 fv fk fp f1 f2 nv nk np ns hv hk hp hs) (cwV 0 hw (gV mw121 mw123 mw3 mw16 mw124) rfl rfl rfl (by decide +kernel) ⟨Nat.le_of_ble_eq_true rfl, Nat.le_of_ble_eq_true rfl⟩) (ro.V (q0 := 0) (ci := 3) hN (hK.sub (tys' := [(kv, .int), (kk, .int), (kp, .int), (k1, .int), (k2, .int)]) [0, 1, 2, 3, 4] rfl) (hP.sub (ws' := [(g, .inr (3, [.ref rv, .ref rk, .ref pt, .ref sp])), (rv, .inr (1, [.ref av, .int (nI nv)])), (av, .inl (kv, 100, .inl fv)), (rk, .inr (1, [.ref ak, .int (nI nk)])), (ak, .inl (kk, 100, .inl fk)), (pt, .inr (0, [.ref ap, .int (nI np)])), (ap, .inl (kp, 100, .inl fp)), (sp, .inr (2, [.ref a1, .ref a2, .int (nI ns)])), (a1, .inl (k1, 100, .inl f1)), (a2, .inl (k2, 100, .inl f2))]) [0, 1, 2, 3, 4, 5, 6, 7, 8, 9] rfl) rfl rfl) rfl rfl hl.1 rfl (lv_room (Nat.le_of_ble_eq_true rfl)) dX3_standing_6 ⟨Nat.le_of_ble_eq_true rfl, Nat.le_of_ble_eq_true rfl⟩)) (fun r3 hr3 => ?_)
    subst hr3
    refine lv_goto (tgt := 17) hx hb dX3_standing_9 (by decide) ?_
    subst hQ
    exact W.iret (v := (snF fv fk nv nk)) hx hb hr (fun t ht hW => ⟨_, rfl, (by unfold stF; first | rw [if_pos q1] | rw [if_neg q1]), ht⟩) (fun _ h => absurd h List.not_mem_nil) dX3_standing_17

abbrev rm_c_rowOf : Room := { frames := 0, cells := 0, slots := 0, locals := 0 }
set_option maxHeartbeats 4000000 in
set_option maxRecDepth 100000 in
theorem c_rowOf (l : Launch) (dC : Nat → ClassId) (dI : Nat → Nat → Nat) (g rv rk pt sp av ak ap a1 a2 : Nat) (kv kk kp k1 k2 : ClassId) (fv fk fp f1 f2 : Nat → Int32) (nv nk np ns : Nat) (hv : nv ≤ 100) (hk : nk ≤ 100) (hp : np ≤ 100) (hs : ns ≤ 100) (w : Int32) : Met l yX3_rowOf (.code yX3_rowOf cX3_rowOf 2 (some (.object "GlobDesk$Row")) :: wsA) rm_c_rowOf (va_Pc [.ref g, .int (w)] (ro (dC, dI) [(g, .inr (3, [.ref rv, .ref rk, .ref pt, .ref sp])), (rv, .inr (1, [.ref av, .int (nI nv)])), (av, .inl (kv, 100, .inl fv)), (rk, .inr (1, [.ref ak, .int (nI nk)])), (ak, .inl (kk, 100, .inl fk)), (pt, .inr (0, [.ref ap, .int (nI np)])), (ap, .inl (kp, 100, .inl fp)), (sp, .inr (2, [.ref a1, .ref a2, .int (nI ns)])), (a1, .inl (k1, 100, .inl f1)), (a2, .inl (k2, 100, .inl f2))] [(kv, .int), (kk, .int), (kp, .int), (k1, .int), (k2, .int)])) (va_Sq (fun r => r = if w = 0 then some rv else if w = 1 then some rk else none)) 0 0 (fun _ => False) := by
  refine Met.ofW (cc := cX3_rowOf) (maxL := 2) (ret := (some (.object "GlobDesk$Row"))) (by decide) rfl ?_
  intro p e s m args below meth c s₁ B hml hv
  obtain ⟨hargs, hN, hP, hK⟩ := hv
  have hx := B.exec
  have hb := B.bytes
  have hr := B.returns
  have hw : ∀ w ∈ wsA, w.before args s = true := fun w h => atoms_spec (ws := (.code yX3_rowOf cX3_rowOf 2 (some (.object "GlobDesk$Row")) :: wsA)) B.pre w (List.mem_cons_of_mem _ h)
  have hown : s.vm.findClass "GlobDesk" = some m.cls := findClass_of_methodNamed B.named
  have hlocks := B.notSynchronized
  generalize hQ : MQ below _ args s _ _ _ = Q
  change W p l e rm_c_rowOf s m args below meth c s.heap [] 0 0 Q (entryFrame m args 2)
  have hl := lv_entry ([.ref g, .int (w)]) (n := 2) (Nat.le_of_ble_eq_true rfl)
  rw [show entryFrame m args 2 = entryFrame m ([.ref g, .int (w)] : List Value).toArray 2 from by rw [hargs], lg_entry_eq]
  generalize (lg_sl ([.ref g, .int (w)]) ++ List.replicate (2 - (lg_sl ([.ref g, .int (w)])).length) Slot.unset).toArray = ls at hl ⊢
  have hl : lv_has ls 2 [(0, .ref g), (1, .int (w))] := hl
  refine lv_iload_n hx hb dX3_rowOf_0 rfl (lv_at hl 1 rfl) ?_
  refine lv_if_ne (tgt := 9) hx hb dX3_rowOf_1 (by decide) (fun c1_0 => ?_) (fun c1_0 => ?_)
  · skip
    have q1 := c1_0
    refine lv_iload_n hx hb dX3_rowOf_9 rfl (lv_at hl 1 rfl) ?_
    refine lv_iconst (v := 1) hx hb dX3_rowOf_10 (by decide) ?_
    refine lv_icmp_ne (tgt := 21) hx hb dX3_rowOf_11 (by decide) (fun c11_1 => ?_) (fun c11_1 => ?_)
    · skip
      have q2 := c11_1
      refine lv_null hx hb dX3_rowOf_21 ?_
      subst hQ
      exact W.aret (v := .null) hx hb hr (Or.inl ⟨_, rfl⟩) (Or.inl rfl) (fun t ht hW => ⟨none, rfl, (by first | rw [if_pos q1] | rw [if_neg q1, if_pos q2] | rw [if_neg q1, if_neg q2]), ht⟩) (fun _ h => absurd h List.not_mem_nil) dX3_rowOf_22
    · skip
      have q2 := c11_1
      refine lv_aload_n hx hb dX3_rowOf_14 rfl (lv_at hl 0 rfl) ?_
      refine va_get (D := (dC, dI)) (ci := 3) (v := .ref rk) (C := RX3) (T := TX3) (N := 4) hx hb hw inX3 hown hK hP 0 rfl rfl 1 (by decide) (hw _ mw78) (fun _ h9 => h9) rfl dX3_rowOf_15 ?_
      refine lv_goto (tgt := 22) hx hb dX3_rowOf_18 (by decide) ?_
      subst hQ
      exact W.aret (v := .ref rk) hx hb hr (Or.inl ⟨_, rfl⟩) (Or.inr ⟨_, rfl⟩) (fun t ht hW => ⟨some rk, rfl, (by first | rw [if_pos q1] | rw [if_neg q1, if_pos q2] | rw [if_neg q1, if_neg q2]), ht⟩) (fun _ h => absurd h List.not_mem_nil) dX3_rowOf_22
  · skip
    have q1 := c1_0
    refine lv_aload_n hx hb dX3_rowOf_4 rfl (lv_at hl 0 rfl) ?_
    refine va_get (D := (dC, dI)) (ci := 3) (v := .ref rv) (C := RX3) (T := TX3) (N := 4) hx hb hw inX3 hown hK hP 0 rfl rfl 0 (by decide) (hw _ mw77) (fun _ h9 => h9) rfl dX3_rowOf_5 ?_
    subst hQ
    exact W.aret (v := .ref rv) hx hb hr (Or.inl ⟨_, rfl⟩) (Or.inr ⟨_, rfl⟩) (fun t ht hW => ⟨some rv, rfl, (by first | rw [if_pos q1] | rw [if_neg q1, if_pos q2] | rw [if_neg q1, if_neg q2]), ht⟩) (fun _ h => absurd h List.not_mem_nil) dX3_rowOf_8

abbrev rm_c_spans : Room := { frames := 0, cells := 0, slots := 0, locals := 0 }
set_option maxHeartbeats 4000000 in
set_option maxRecDepth 100000 in
theorem c_spans (l : Launch) (dC : Nat → ClassId) (dI : Nat → Nat → Nat) (g rv rk pt sp av ak ap a1 a2 : Nat) (kv kk kp k1 k2 : ClassId) (fv fk fp f1 f2 : Nat → Int32) (nv nk np ns : Nat) (hv : nv ≤ 100) (hk : nk ≤ 100) (hp : np ≤ 100) (hs : ns ≤ 100) : Met l yX3_spans (.code yX3_spans cX3_spans 1 (some (.int)) :: wsA) rm_c_spans (va_Pc [.ref g] (ro (dC, dI) [(g, .inr (3, [.ref rv, .ref rk, .ref pt, .ref sp])), (rv, .inr (1, [.ref av, .int (nI nv)])), (av, .inl (kv, 100, .inl fv)), (rk, .inr (1, [.ref ak, .int (nI nk)])), (ak, .inl (kk, 100, .inl fk)), (pt, .inr (0, [.ref ap, .int (nI np)])), (ap, .inl (kp, 100, .inl fp)), (sp, .inr (2, [.ref a1, .ref a2, .int (nI ns)])), (a1, .inl (k1, 100, .inl f1)), (a2, .inl (k2, 100, .inl f2))] [(kv, .int), (kk, .int), (kp, .int), (k1, .int), (k2, .int)])) (vp_Si (fun r => r = nI ns)) 0 0 (fun _ => False) := by
  refine Met.ofW (cc := cX3_spans) (maxL := 1) (ret := (some (.int))) (by decide) rfl ?_
  intro p e s m args below meth c s₁ B hml hv
  obtain ⟨hargs, hN, hP, hK⟩ := hv
  have hx := B.exec
  have hb := B.bytes
  have hr := B.returns
  have hw : ∀ w ∈ wsA, w.before args s = true := fun w h => atoms_spec (ws := (.code yX3_spans cX3_spans 1 (some (.int)) :: wsA)) B.pre w (List.mem_cons_of_mem _ h)
  have hown : s.vm.findClass "GlobDesk" = some m.cls := findClass_of_methodNamed B.named
  have hlocks := B.notSynchronized
  generalize hQ : MQ below _ args s _ _ _ = Q
  change W p l e rm_c_spans s m args below meth c s.heap [] 0 0 Q (entryFrame m args 1)
  have hl := lv_entry ([.ref g]) (n := 1) (Nat.le_of_ble_eq_true rfl)
  rw [show entryFrame m args 1 = entryFrame m ([.ref g] : List Value).toArray 1 from by rw [hargs], lg_entry_eq]
  generalize (lg_sl ([.ref g]) ++ List.replicate (1 - (lg_sl ([.ref g])).length) Slot.unset).toArray = ls at hl ⊢
  have hl : lv_has ls 1 [(0, .ref g)] := hl
  refine lv_aload_n hx hb dX3_spans_0 rfl (lv_at hl 0 rfl) ?_
  refine va_get (D := (dC, dI)) (ci := 3) (v := .ref sp) (C := RX3) (T := TX3) (N := 4) hx hb hw inX3 hown hK hP 0 rfl rfl 3 (by decide) (hw _ mw80) (fun _ h9 => h9) rfl dX3_spans_1 ?_
  refine va_getN (D := (dC, dI)) (ci := 2) (v := .int (nI ns)) (C := RX2) (T := TX2) (N := 3) hx hb hw inX2 hown hK hP 7 rfl rfl 2 (by decide) (va_Nw.use rfl hN.2.2.2.2.2.2) (fun _ h9 => h9) rfl dX3_spans_4 ?_
  subst hQ
  exact W.iret (v := (nI ns)) hx hb hr (fun t ht hW => ⟨_, rfl, rfl, ht⟩) (fun _ h => absurd h List.not_mem_nil) dX3_spans_7

abbrev rm_c_span : Room := { frames := 1, cells := 0, slots := 0, locals := 21 }
set_option maxHeartbeats 4000000 in
set_option maxRecDepth 100000 in
theorem c_span (l : Launch) (dC : Nat → ClassId) (dI : Nat → Nat → Nat) (g rv rk pt sp av ak ap a1 a2 : Nat) (kv kk kp k1 k2 : ClassId) (fv fk fp f1 f2 : Nat → Int32) (nv nk np ns : Nat) (hv : nv ≤ 100) (hk : nk ≤ 100) (hp : np ≤ 100) (hs : ns ≤ 100) (i w : Int32) : Met l yX3_span (.code yX3_span cX3_span 3 (some (.int)) :: wsA) rm_c_span (va_Pc [.ref g, .int (i), .int (w)] (ro (dC, dI) [(g, .inr (3, [.ref rv, .ref rk, .ref pt, .ref sp])), (rv, .inr (1, [.ref av, .int (nI nv)])), (av, .inl (kv, 100, .inl fv)), (rk, .inr (1, [.ref ak, .int (nI nk)])), (ak, .inl (kk, 100, .inl fk)), (pt, .inr (0, [.ref ap, .int (nI np)])), (ap, .inl (kp, 100, .inl fp)), (sp, .inr (2, [.ref a1, .ref a2, .int (nI ns)])), (a1, .inl (k1, 100, .inl f1)), (a2, .inl (k2, 100, .inl f2))] [(kv, .int), (kk, .int), (kp, .int), (k1, .int), (k2, .int)])) (vp_Si (fun r => r = if w = 0 then ra f1 ns i else if w = 1 then ra f2 ns i else -1)) 0 0 (fun _ => False) := by
  refine Met.ofW (cc := cX3_span) (maxL := 3) (ret := (some (.int))) (by decide) rfl ?_
  intro p e s m args below meth c s₁ B hml hv
  obtain ⟨hargs, hN, hP, hK⟩ := hv
  have hx := B.exec
  have hb := B.bytes
  have hr := B.returns
  have hw : ∀ w ∈ wsA, w.before args s = true := fun w h => atoms_spec (ws := (.code yX3_span cX3_span 3 (some (.int)) :: wsA)) B.pre w (List.mem_cons_of_mem _ h)
  have hown : s.vm.findClass "GlobDesk" = some m.cls := findClass_of_methodNamed B.named
  have hlocks := B.notSynchronized
  generalize hQ : MQ below _ args s _ _ _ = Q
  change W p l e rm_c_span s m args below meth c s.heap [] 0 0 Q (entryFrame m args 3)
  have hl := lv_entry ([.ref g, .int (i), .int (w)]) (n := 3) (Nat.le_of_ble_eq_true rfl)
  rw [show entryFrame m args 3 = entryFrame m ([.ref g, .int (i), .int (w)] : List Value).toArray 3 from by rw [hargs], lg_entry_eq]
  generalize (lg_sl ([.ref g, .int (i), .int (w)]) ++ List.replicate (3 - (lg_sl ([.ref g, .int (i), .int (w)])).length) Slot.unset).toArray = ls at hl ⊢
  have hl : lv_has ls 3 [(0, .ref g), (1, .int (i)), (2, .int (w))] := hl
  refine lv_iload_n hx hb dX3_span_0 rfl (lv_at hl 2 rfl) ?_
  refine lv_if_ne (tgt := 13) hx hb dX3_span_1 (by decide) (fun c1_0 => ?_) (fun c1_0 => ?_)
  · skip
    have q1 := c1_0
    refine lv_iload_n hx hb dX3_span_13 rfl (lv_at hl 2 rfl) ?_
    refine lv_iconst (v := 1) hx hb dX3_span_14 (by decide) ?_
    refine lv_icmp_ne (tgt := 27) hx hb dX3_span_15 (by decide) (fun c15_1 => ?_) (fun c15_1 => ?_)
    · skip
      have q2 := c15_1
      refine lv_iconst (v := -1) hx hb dX3_span_27 (by decide) ?_
      subst hQ
      exact W.iret (v := (-1)) hx hb hr (fun t ht hW => ⟨_, rfl, (by first | rw [if_pos q1] | rw [if_neg q1, if_pos q2] | rw [if_neg q1, if_neg q2]), ht⟩) (fun _ h => absurd h List.not_mem_nil) dX3_span_28
    · skip
      have q2 := c15_1
      refine lv_aload_n hx hb dX3_span_18 rfl (lv_at hl 0 rfl) ?_
      refine va_get (D := (dC, dI)) (ci := 3) (v := .ref sp) (C := RX3) (T := TX3) (N := 4) hx hb hw inX3 hown hK hP 0 rfl rfl 3 (by decide) (hw _ mw80) (fun _ h9 => h9) rfl dX3_span_19 ?_
      refine lv_iload_n hx hb dX3_span_22 rfl (lv_at hl 1 rfl) ?_
      refine vp_callSi (va_Run.run (va_runV (As := [.int (i)]) (rest := []) ⟨hx, hb, hml, hown, hw⟩ (c_Sp_length l dC dI sp a1 a2 k1 k2 f1 f2 ns hs i) (cwV 1 hw (gV mw208 mw209 mw210 mw19 mw211) rfl rfl rfl (by decide +kernel) ⟨Nat.le_of_ble_eq_true rfl, Nat.le_of_ble_eq_true rfl⟩) (ro.V (q0 := 0) (ci := 2) hN (hK.sub (tys' := [(k1, .int), (k2, .int)]) [3, 4] rfl) (hP.sub (ws' := [(sp, .inr (2, [.ref a1, .ref a2, .int (nI ns)])), (a1, .inl (k1, 100, .inl f1)), (a2, .inl (k2, 100, .inl f2))]) [7, 8, 9] rfl) rfl rfl) rfl rfl hl.1 rfl (lv_room (Nat.le_of_ble_eq_true rfl)) dX3_span_23 ⟨Nat.le_of_ble_eq_true rfl, Nat.le_of_ble_eq_true rfl⟩)) (fun r3 hr3 => ?_)
      subst hr3
      subst hQ
      exact W.iret (v := (ra f2 ns i)) hx hb hr (fun t ht hW => ⟨_, rfl, (by first | rw [if_pos q1] | rw [if_neg q1, if_pos q2] | rw [if_neg q1, if_neg q2]), ht⟩) (fun _ h => absurd h List.not_mem_nil) dX3_span_26
  · skip
    have q1 := c1_0
    refine lv_aload_n hx hb dX3_span_4 rfl (lv_at hl 0 rfl) ?_
    refine va_get (D := (dC, dI)) (ci := 3) (v := .ref sp) (C := RX3) (T := TX3) (N := 4) hx hb hw inX3 hown hK hP 0 rfl rfl 3 (by decide) (hw _ mw80) (fun _ h9 => h9) rfl dX3_span_5 ?_
    refine lv_iload_n hx hb dX3_span_8 rfl (lv_at hl 1 rfl) ?_
    refine vp_callSi (va_Run.run (va_runV (As := [.int (i)]) (rest := []) ⟨hx, hb, hml, hown, hw⟩ (c_Sp_begin l dC dI sp a1 a2 k1 k2 f1 f2 ns hs i) (cwV 1 hw (gV mw204 mw205 mw206 mw19 mw207) rfl rfl rfl (by decide +kernel) ⟨Nat.le_of_ble_eq_true rfl, Nat.le_of_ble_eq_true rfl⟩) (ro.V (q0 := 0) (ci := 2) hN (hK.sub (tys' := [(k1, .int), (k2, .int)]) [3, 4] rfl) (hP.sub (ws' := [(sp, .inr (2, [.ref a1, .ref a2, .int (nI ns)])), (a1, .inl (k1, 100, .inl f1)), (a2, .inl (k2, 100, .inl f2))]) [7, 8, 9] rfl) rfl rfl) rfl rfl hl.1 rfl (lv_room (Nat.le_of_ble_eq_true rfl)) dX3_span_9 ⟨Nat.le_of_ble_eq_true rfl, Nat.le_of_ble_eq_true rfl⟩)) (fun r4 hr4 => ?_)
    subst hr4
    subst hQ
    exact W.iret (v := (ra f1 ns i)) hx hb hr (fun t ht hW => ⟨_, rfl, (by first | rw [if_pos q1] | rw [if_neg q1, if_pos q2] | rw [if_neg q1, if_neg q2]), ht⟩) (fun _ h => absurd h List.not_mem_nil) dX3_span_12

abbrev rm_c_order : Room := { frames := 4, cells := 0, slots := 0, locals := 91 }
set_option maxHeartbeats 4000000 in
set_option maxRecDepth 100000 in
theorem c_order (l : Launch) (dC : Nat → ClassId) (dI : Nat → Nat → Nat) (g rv rk pt sp av ak ap a1 a2 : Nat) (kv kk kp k1 k2 : ClassId) (fv fk fp f1 f2 : Nat → Int32) (nv nk np ns : Nat) (hv : nv ≤ 100) (hk : nk ≤ 100) (hp : np ≤ 100) (hs : ns ≤ 100) (cp : Int32) : Met l yX3_order (.code yX3_order cX3_order 2 (some (.int)) :: wsA) rm_c_order (va_Pc [.ref g, .int (cp)] (ro (dC, dI) [(g, .inr (3, [.ref rv, .ref rk, .ref pt, .ref sp])), (rv, .inr (1, [.ref av, .int (nI nv)])), (av, .inl (kv, 100, .inl fv)), (rk, .inr (1, [.ref ak, .int (nI nk)])), (ak, .inl (kk, 100, .inl fk)), (pt, .inr (0, [.ref ap, .int (nI np)])), (ap, .inl (kp, 100, .inl fp)), (sp, .inr (2, [.ref a1, .ref a2, .int (nI ns)])), (a1, .inl (k1, 100, .inl f1)), (a2, .inl (k2, 100, .inl f2))] [(kv, .int), (kk, .int), (kp, .int), (k1, .int), (k2, .int)])) (vp_Si (fun r => r = if 0 ≤ cp.toInt ∧ cp.toInt ≤ 2 then stF fv fk nv nk cp else -2)) 0 0 (fun _ => False) := by
  refine Met.ofW (cc := cX3_order) (maxL := 2) (ret := (some (.int))) (by decide) rfl ?_
  intro p e s m args below meth c s₁ B hml hv
  obtain ⟨hargs, hN, hP, hK⟩ := hv
  have hx := B.exec
  have hb := B.bytes
  have hr := B.returns
  have hw : ∀ w ∈ wsA, w.before args s = true := fun w h => atoms_spec (ws := (.code yX3_order cX3_order 2 (some (.int)) :: wsA)) B.pre w (List.mem_cons_of_mem _ h)
  have hown : s.vm.findClass "GlobDesk" = some m.cls := findClass_of_methodNamed B.named
  have hlocks := B.notSynchronized
  generalize hQ : MQ below _ args s _ _ _ = Q
  change W p l e rm_c_order s m args below meth c s.heap [] 0 0 Q (entryFrame m args 2)
  have hl := lv_entry ([.ref g, .int (cp)]) (n := 2) (Nat.le_of_ble_eq_true rfl)
  rw [show entryFrame m args 2 = entryFrame m ([.ref g, .int (cp)] : List Value).toArray 2 from by rw [hargs], lg_entry_eq]
  generalize (lg_sl ([.ref g, .int (cp)]) ++ List.replicate (2 - (lg_sl ([.ref g, .int (cp)])).length) Slot.unset).toArray = ls at hl ⊢
  have hl : lv_has ls 2 [(0, .ref g), (1, .int (cp))] := hl
  refine lv_iload_n hx hb dX3_order_0 rfl (lv_at hl 1 rfl) ?_
  refine vp_callSi (va_Run.run (va_runS (As := [.int (cp)]) (rest := []) ⟨hx, hb, hml, hown, hw⟩ (c_isCmp l (cp)) (cwS 1 hw (gS mw110 mw111 mw16 mw112) rfl rfl rfl (by decide +kernel) ⟨Nat.le_of_ble_eq_true rfl, Nat.le_of_ble_eq_true rfl⟩) st.S rfl rfl hl.1 rfl (lv_room (Nat.le_of_ble_eq_true rfl)) dX3_order_1 ⟨Nat.le_of_ble_eq_true rfl, Nat.le_of_ble_eq_true rfl⟩)) (fun r1 hr1 => ?_)
  subst hr1
  refine lv_if_ne (tgt := 10) hx hb dX3_order_4 (by decide) (fun c4_1 => ?_) (fun c4_1 => ?_)
  · skip
    have q1 : 0 ≤ cp.toInt ∧ cp.toInt ≤ 2 := Decidable.byContradiction (fun q => c4_1 (if_neg q))
    refine lv_aload_n hx hb dX3_order_10 rfl (lv_at hl 0 rfl) ?_
    refine lv_iload_n hx hb dX3_order_11 rfl (lv_at hl 1 rfl) ?_
    refine vp_callSi (va_Run.run (va_runV (As := [.int (cp)]) (rest := []) ⟨hx, hb, hml, hown, hw⟩ (c_st l dC dI g rv rk pt sp av ak ap a1 a2 kv kk kp k1 k2 fv fk fp f1 f2 nv nk np ns hv hk hp hs (cp)) (cwV 1 hw (gV mw117 mw119 mw2 mw16 mw120) rfl rfl rfl (by decide +kernel) ⟨Nat.le_of_ble_eq_true rfl, Nat.le_of_ble_eq_true rfl⟩) (ro.V (q0 := 0) (ci := 3) hN (hK.sub (tys' := [(kv, .int), (kk, .int), (kp, .int), (k1, .int), (k2, .int)]) [0, 1, 2, 3, 4] rfl) (hP.sub (ws' := [(g, .inr (3, [.ref rv, .ref rk, .ref pt, .ref sp])), (rv, .inr (1, [.ref av, .int (nI nv)])), (av, .inl (kv, 100, .inl fv)), (rk, .inr (1, [.ref ak, .int (nI nk)])), (ak, .inl (kk, 100, .inl fk)), (pt, .inr (0, [.ref ap, .int (nI np)])), (ap, .inl (kp, 100, .inl fp)), (sp, .inr (2, [.ref a1, .ref a2, .int (nI ns)])), (a1, .inl (k1, 100, .inl f1)), (a2, .inl (k2, 100, .inl f2))]) [0, 1, 2, 3, 4, 5, 6, 7, 8, 9] rfl) rfl rfl) rfl rfl hl.1 rfl (lv_room (Nat.le_of_ble_eq_true rfl)) dX3_order_12 ⟨Nat.le_of_ble_eq_true rfl, Nat.le_of_ble_eq_true rfl⟩)) (fun r3 hr3 => ?_)
    subst hr3
    subst hQ
    exact W.iret (v := (stF fv fk nv nk (cp))) hx hb hr (fun t ht hW => ⟨_, rfl, (by first | rw [if_pos q1] | rw [if_neg q1]), ht⟩) (fun _ h => absurd h List.not_mem_nil) dX3_order_15
  · skip
    have q1 : ¬ (0 ≤ cp.toInt ∧ cp.toInt ≤ 2) := fun q => absurd (by first | exact c4_1 | exact Decidable.not_not.mp c4_1) (by rw [if_pos q]; decide)
    refine lv_bipush (v := -2) hx hb dX3_order_7 (by decide) ?_
    subst hQ
    exact W.iret (v := (-2)) hx hb hr (fun t ht hW => ⟨_, rfl, (by first | rw [if_pos q1] | rw [if_neg q1]), ht⟩) (fun _ h => absurd h List.not_mem_nil) dX3_order_9

abbrev rm_c_byteAt : Room := { frames := 1, cells := 0, slots := 0, locals := 21 }
set_option maxHeartbeats 4000000 in
set_option maxRecDepth 100000 in
theorem c_byteAt (l : Launch) (dC : Nat → ClassId) (dI : Nat → Nat → Nat) (g rv rk pt sp av ak ap a1 a2 : Nat) (kv kk kp k1 k2 : ClassId) (fv fk fp f1 f2 : Nat → Int32) (nv nk np ns : Nat) (hv : nv ≤ 100) (hk : nk ≤ 100) (hp : np ≤ 100) (hs : ns ≤ 100) (w i : Int32) : Met l yX3_byteAt (.code yX3_byteAt cX3_byteAt 4 (some (.int)) :: wsA) rm_c_byteAt (va_Pc [.ref g, .int (w), .int (i)] (ro (dC, dI) [(g, .inr (3, [.ref rv, .ref rk, .ref pt, .ref sp])), (rv, .inr (1, [.ref av, .int (nI nv)])), (av, .inl (kv, 100, .inl fv)), (rk, .inr (1, [.ref ak, .int (nI nk)])), (ak, .inl (kk, 100, .inl fk)), (pt, .inr (0, [.ref ap, .int (nI np)])), (ap, .inl (kp, 100, .inl fp)), (sp, .inr (2, [.ref a1, .ref a2, .int (nI ns)])), (a1, .inl (k1, 100, .inl f1)), (a2, .inl (k2, 100, .inl f2))] [(kv, .int), (kk, .int), (kp, .int), (k1, .int), (k2, .int)])) (vp_Si (fun r => r = if w = 0 then ra fv nv i else if w = 1 then ra fk nk i else -1)) 0 0 (fun _ => False) := by
  refine Met.ofW (cc := cX3_byteAt) (maxL := 4) (ret := (some (.int))) (by decide) rfl ?_
  intro p e s m args below meth c s₁ B hml hv
  obtain ⟨hargs, hN, hP, hK⟩ := hv
  have hx := B.exec
  have hb := B.bytes
  have hr := B.returns
  have hw : ∀ w ∈ wsA, w.before args s = true := fun w h => atoms_spec (ws := (.code yX3_byteAt cX3_byteAt 4 (some (.int)) :: wsA)) B.pre w (List.mem_cons_of_mem _ h)
  have hown : s.vm.findClass "GlobDesk" = some m.cls := findClass_of_methodNamed B.named
  have hlocks := B.notSynchronized
  generalize hQ : MQ below _ args s _ _ _ = Q
  change W p l e rm_c_byteAt s m args below meth c s.heap [] 0 0 Q (entryFrame m args 4)
  have hl := lv_entry ([.ref g, .int (w), .int (i)]) (n := 4) (Nat.le_of_ble_eq_true rfl)
  rw [show entryFrame m args 4 = entryFrame m ([.ref g, .int (w), .int (i)] : List Value).toArray 4 from by rw [hargs], lg_entry_eq]
  generalize (lg_sl ([.ref g, .int (w), .int (i)]) ++ List.replicate (4 - (lg_sl ([.ref g, .int (w), .int (i)])).length) Slot.unset).toArray = ls at hl ⊢
  have hl : lv_has ls 4 [(0, .ref g), (1, .int (w)), (2, .int (i))] := hl
  refine lv_aload_n hx hb dX3_byteAt_0 rfl (lv_at hl 0 rfl) ?_
  refine lv_iload_n hx hb dX3_byteAt_1 rfl (lv_at hl 1 rfl) ?_
  refine va_csq (va_Run.run (va_runV (As := [.int (w)]) (rest := []) ⟨hx, hb, hml, hown, hw⟩ (c_rowOf l dC dI g rv rk pt sp av ak ap a1 a2 kv kk kp k1 k2 fv fk fp f1 f2 nv nk np ns hv hk hp hs (w)) (cwV 1 hw (gV mw94 mw96 mw0 mw16 mw97) rfl rfl rfl (by decide +kernel) ⟨Nat.le_of_ble_eq_true rfl, Nat.le_of_ble_eq_true rfl⟩) (ro.V (q0 := 0) (ci := 3) hN (hK.sub (tys' := [(kv, .int), (kk, .int), (kp, .int), (k1, .int), (k2, .int)]) [0, 1, 2, 3, 4] rfl) (hP.sub (ws' := [(g, .inr (3, [.ref rv, .ref rk, .ref pt, .ref sp])), (rv, .inr (1, [.ref av, .int (nI nv)])), (av, .inl (kv, 100, .inl fv)), (rk, .inr (1, [.ref ak, .int (nI nk)])), (ak, .inl (kk, 100, .inl fk)), (pt, .inr (0, [.ref ap, .int (nI np)])), (ap, .inl (kp, 100, .inl fp)), (sp, .inr (2, [.ref a1, .ref a2, .int (nI ns)])), (a1, .inl (k1, 100, .inl f1)), (a2, .inl (k2, 100, .inl f2))]) [0, 1, 2, 3, 4, 5, 6, 7, 8, 9] rfl) rfl rfl) rfl rfl hl.1 rfl (lv_room (Nat.le_of_ble_eq_true rfl)) dX3_byteAt_2 ⟨Nat.le_of_ble_eq_true rfl, Nat.le_of_ble_eq_true rfl⟩)) (fun r1 hr1 => ?_)
  by_cases w0 : w = 0
  · skip
    obtain rfl : r1 = some rv := by rw [hr1, if_pos w0]
    refine lv_astore_n (lv' := [(3, .ref rv), (0, .ref g), (1, .int (w)), (2, .int (i))]) hx hb dX3_byteAt_5 rfl hl (by decide) rfl (fun ls hl => ?_)
    refine lv_aload_n hx hb dX3_byteAt_6 rfl (lv_at hl 0 rfl) ?_
    refine lv_ifnonnull (tgt := 14) hx hb dX3_byteAt_7 (by decide) ?_
    refine lv_aload_n hx hb dX3_byteAt_14 rfl (lv_at hl 0 rfl) ?_
    refine lv_iload_n hx hb dX3_byteAt_15 rfl (lv_at hl 3 rfl) ?_
    refine vp_callSi (va_Run.run (va_runV (As := [.int (i)]) (rest := []) ⟨hx, hb, hml, hown, hw⟩ (c_Row_at l dC dI rv av kv fv nv hv i) (cwV 1 hw (gV mw140 mw137 mw138 mw17 mw139) rfl rfl rfl (by decide +kernel) ⟨Nat.le_of_ble_eq_true rfl, Nat.le_of_ble_eq_true rfl⟩) (ro.V (q0 := 0) (ci := 1) hN (hK.sub (tys' := [(kv, .int)]) [0] rfl) (hP.sub (ws' := [(rv, .inr (1, [.ref av, .int (nI nv)])), (av, .inl (kv, 100, .inl fv))]) [1, 2] rfl) rfl rfl) rfl rfl hl.1 rfl (lv_room (Nat.le_of_ble_eq_true rfl)) dX3_byteAt_16 ⟨Nat.le_of_ble_eq_true rfl, Nat.le_of_ble_eq_true rfl⟩)) (fun r2 hr2 => ?_)
    subst hr2
    subst hQ
    exact W.iret (v := (ra fv nv i)) hx hb hr (fun t ht hW => ⟨_, rfl, (by first | rw [if_pos w0] | rw [if_neg w0, if_pos w1] | rw [if_neg w0, if_neg w1]), ht⟩) (fun _ h => absurd h List.not_mem_nil) dX3_byteAt_19
  · skip
    by_cases w1 : w = 1
    · skip
      obtain rfl : r1 = some rk := by rw [hr1, if_neg w0, if_pos w1]
      refine lv_astore_n (lv' := [(3, .ref rk), (0, .ref g), (1, .int (w)), (2, .int (i))]) hx hb dX3_byteAt_5 rfl hl (by decide) rfl (fun ls hl => ?_)
      refine lv_aload_n hx hb dX3_byteAt_6 rfl (lv_at hl 0 rfl) ?_
      refine lv_ifnonnull (tgt := 14) hx hb dX3_byteAt_7 (by decide) ?_
      refine lv_aload_n hx hb dX3_byteAt_14 rfl (lv_at hl 0 rfl) ?_
      refine lv_iload_n hx hb dX3_byteAt_15 rfl (lv_at hl 3 rfl) ?_
      refine vp_callSi (va_Run.run (va_runV (As := [.int (i)]) (rest := []) ⟨hx, hb, hml, hown, hw⟩ (c_Row_at l dC dI rk ak kk fk nk hk i) (cwV 1 hw (gV mw140 mw137 mw138 mw17 mw139) rfl rfl rfl (by decide +kernel) ⟨Nat.le_of_ble_eq_true rfl, Nat.le_of_ble_eq_true rfl⟩) (ro.V (q0 := 0) (ci := 1) hN (hK.sub (tys' := [(kk, .int)]) [1] rfl) (hP.sub (ws' := [(rk, .inr (1, [.ref ak, .int (nI nk)])), (ak, .inl (kk, 100, .inl fk))]) [3, 4] rfl) rfl rfl) rfl rfl hl.1 rfl (lv_room (Nat.le_of_ble_eq_true rfl)) dX3_byteAt_16 ⟨Nat.le_of_ble_eq_true rfl, Nat.le_of_ble_eq_true rfl⟩)) (fun r3 hr3 => ?_)
      subst hr3
      subst hQ
      exact W.iret (v := (ra fk nk i)) hx hb hr (fun t ht hW => ⟨_, rfl, (by first | rw [if_pos w0] | rw [if_neg w0, if_pos w1] | rw [if_neg w0, if_neg w1]), ht⟩) (fun _ h => absurd h List.not_mem_nil) dX3_byteAt_19
    · skip
      obtain rfl : r1 = none := by rw [hr1, if_neg w0, if_neg w1]
      refine lv_astore_nN (lv' := [(3, .null), (0, .ref g), (1, .int (w)), (2, .int (i))]) hx hb dX3_byteAt_5 rfl hl (by decide) rfl (fun ls hl => ?_)
      refine lv_aload_nN hx hb dX3_byteAt_6 rfl (lv_at hl 0 rfl) ?_
      refine lv_ifnonnullN hx hb dX3_byteAt_7 ?_
      refine lv_iconst (v := -1) hx hb dX3_byteAt_10 (by decide) ?_
      refine lv_goto (tgt := 19) hx hb dX3_byteAt_11 (by decide) ?_
      subst hQ
      exact W.iret (v := (-1)) hx hb hr (fun t ht hW => ⟨_, rfl, (by first | rw [if_pos w0] | rw [if_neg w0, if_pos w1] | rw [if_neg w0, if_neg w1]), ht⟩) (fun _ h => absurd h List.not_mem_nil) dX3_byteAt_19

abbrev rm_c_size : Room := { frames := 1, cells := 0, slots := 0, locals := 21 }
set_option maxHeartbeats 4000000 in
set_option maxRecDepth 100000 in
theorem c_size (l : Launch) (dC : Nat → ClassId) (dI : Nat → Nat → Nat) (g rv rk pt sp av ak ap a1 a2 : Nat) (kv kk kp k1 k2 : ClassId) (fv fk fp f1 f2 : Nat → Int32) (nv nk np ns : Nat) (hv : nv ≤ 100) (hk : nk ≤ 100) (hp : np ≤ 100) (hs : ns ≤ 100) (w : Int32) : Met l yX3_size (.code yX3_size cX3_size 3 (some (.int)) :: wsA) rm_c_size (va_Pc [.ref g, .int (w)] (ro (dC, dI) [(g, .inr (3, [.ref rv, .ref rk, .ref pt, .ref sp])), (rv, .inr (1, [.ref av, .int (nI nv)])), (av, .inl (kv, 100, .inl fv)), (rk, .inr (1, [.ref ak, .int (nI nk)])), (ak, .inl (kk, 100, .inl fk)), (pt, .inr (0, [.ref ap, .int (nI np)])), (ap, .inl (kp, 100, .inl fp)), (sp, .inr (2, [.ref a1, .ref a2, .int (nI ns)])), (a1, .inl (k1, 100, .inl f1)), (a2, .inl (k2, 100, .inl f2))] [(kv, .int), (kk, .int), (kp, .int), (k1, .int), (k2, .int)])) (vp_Si (fun r => r = if w = 0 then nI nv else if w = 1 then nI nk else -1)) 0 0 (fun _ => False) := by
  refine Met.ofW (cc := cX3_size) (maxL := 3) (ret := (some (.int))) (by decide) rfl ?_
  intro p e s m args below meth c s₁ B hml hv
  obtain ⟨hargs, hN, hP, hK⟩ := hv
  have hx := B.exec
  have hb := B.bytes
  have hr := B.returns
  have hw : ∀ w ∈ wsA, w.before args s = true := fun w h => atoms_spec (ws := (.code yX3_size cX3_size 3 (some (.int)) :: wsA)) B.pre w (List.mem_cons_of_mem _ h)
  have hown : s.vm.findClass "GlobDesk" = some m.cls := findClass_of_methodNamed B.named
  have hlocks := B.notSynchronized
  generalize hQ : MQ below _ args s _ _ _ = Q
  change W p l e rm_c_size s m args below meth c s.heap [] 0 0 Q (entryFrame m args 3)
  have hl := lv_entry ([.ref g, .int (w)]) (n := 3) (Nat.le_of_ble_eq_true rfl)
  rw [show entryFrame m args 3 = entryFrame m ([.ref g, .int (w)] : List Value).toArray 3 from by rw [hargs], lg_entry_eq]
  generalize (lg_sl ([.ref g, .int (w)]) ++ List.replicate (3 - (lg_sl ([.ref g, .int (w)])).length) Slot.unset).toArray = ls at hl ⊢
  have hl : lv_has ls 3 [(0, .ref g), (1, .int (w))] := hl
  refine lv_aload_n hx hb dX3_size_0 rfl (lv_at hl 0 rfl) ?_
  refine lv_iload_n hx hb dX3_size_1 rfl (lv_at hl 1 rfl) ?_
  refine va_csq (va_Run.run (va_runV (As := [.int (w)]) (rest := []) ⟨hx, hb, hml, hown, hw⟩ (c_rowOf l dC dI g rv rk pt sp av ak ap a1 a2 kv kk kp k1 k2 fv fk fp f1 f2 nv nk np ns hv hk hp hs (w)) (cwV 1 hw (gV mw94 mw96 mw0 mw16 mw97) rfl rfl rfl (by decide +kernel) ⟨Nat.le_of_ble_eq_true rfl, Nat.le_of_ble_eq_true rfl⟩) (ro.V (q0 := 0) (ci := 3) hN (hK.sub (tys' := [(kv, .int), (kk, .int), (kp, .int), (k1, .int), (k2, .int)]) [0, 1, 2, 3, 4] rfl) (hP.sub (ws' := [(g, .inr (3, [.ref rv, .ref rk, .ref pt, .ref sp])), (rv, .inr (1, [.ref av, .int (nI nv)])), (av, .inl (kv, 100, .inl fv)), (rk, .inr (1, [.ref ak, .int (nI nk)])), (ak, .inl (kk, 100, .inl fk)), (pt, .inr (0, [.ref ap, .int (nI np)])), (ap, .inl (kp, 100, .inl fp)), (sp, .inr (2, [.ref a1, .ref a2, .int (nI ns)])), (a1, .inl (k1, 100, .inl f1)), (a2, .inl (k2, 100, .inl f2))]) [0, 1, 2, 3, 4, 5, 6, 7, 8, 9] rfl) rfl rfl) rfl rfl hl.1 rfl (lv_room (Nat.le_of_ble_eq_true rfl)) dX3_size_2 ⟨Nat.le_of_ble_eq_true rfl, Nat.le_of_ble_eq_true rfl⟩)) (fun r1 hr1 => ?_)
  by_cases w0 : w = 0
  · skip
    obtain rfl : r1 = some rv := by rw [hr1, if_pos w0]
    refine lv_astore_n (lv' := [(2, .ref rv), (0, .ref g), (1, .int (w))]) hx hb dX3_size_5 rfl hl (by decide) rfl (fun ls hl => ?_)
    refine lv_aload_n hx hb dX3_size_6 rfl (lv_at hl 0 rfl) ?_
    refine lv_ifnonnull (tgt := 14) hx hb dX3_size_7 (by decide) ?_
    refine lv_aload_n hx hb dX3_size_14 rfl (lv_at hl 0 rfl) ?_
    refine va_getN (D := (dC, dI)) (ci := 1) (v := .int (nI nv)) (C := RX1) (T := TX1) (N := 2) hx hb hw inX1 hown hK hP 1 rfl rfl 1 (by decide) (va_Nw.use rfl hN.2.2.1) (fun _ h9 => h9) rfl dX3_size_15 ?_
    subst hQ
    exact W.iret (v := (nI nv)) hx hb hr (fun t ht hW => ⟨_, rfl, (by first | rw [if_pos w0] | rw [if_neg w0, if_pos w1] | rw [if_neg w0, if_neg w1]), ht⟩) (fun _ h => absurd h List.not_mem_nil) dX3_size_18
  · skip
    by_cases w1 : w = 1
    · skip
      obtain rfl : r1 = some rk := by rw [hr1, if_neg w0, if_pos w1]
      refine lv_astore_n (lv' := [(2, .ref rk), (0, .ref g), (1, .int (w))]) hx hb dX3_size_5 rfl hl (by decide) rfl (fun ls hl => ?_)
      refine lv_aload_n hx hb dX3_size_6 rfl (lv_at hl 0 rfl) ?_
      refine lv_ifnonnull (tgt := 14) hx hb dX3_size_7 (by decide) ?_
      refine lv_aload_n hx hb dX3_size_14 rfl (lv_at hl 0 rfl) ?_
      refine va_getN (D := (dC, dI)) (ci := 1) (v := .int (nI nk)) (C := RX1) (T := TX1) (N := 2) hx hb hw inX1 hown hK hP 3 rfl rfl 1 (by decide) (va_Nw.use rfl hN.2.2.1) (fun _ h9 => h9) rfl dX3_size_15 ?_
      subst hQ
      exact W.iret (v := (nI nk)) hx hb hr (fun t ht hW => ⟨_, rfl, (by first | rw [if_pos w0] | rw [if_neg w0, if_pos w1] | rw [if_neg w0, if_neg w1]), ht⟩) (fun _ h => absurd h List.not_mem_nil) dX3_size_18
    · skip
      obtain rfl : r1 = none := by rw [hr1, if_neg w0, if_neg w1]
      refine lv_astore_nN (lv' := [(2, .null), (0, .ref g), (1, .int (w))]) hx hb dX3_size_5 rfl hl (by decide) rfl (fun ls hl => ?_)
      refine lv_aload_nN hx hb dX3_size_6 rfl (lv_at hl 0 rfl) ?_
      refine lv_ifnonnullN hx hb dX3_size_7 ?_
      refine lv_iconst (v := -1) hx hb dX3_size_10 (by decide) ?_
      refine lv_goto (tgt := 18) hx hb dX3_size_11 (by decide) ?_
      subst hQ
      exact W.iret (v := (-1)) hx hb hr (fun t ht hW => ⟨_, rfl, (by first | rw [if_pos w0] | rw [if_neg w0, if_pos w1] | rw [if_neg w0, if_neg w1]), ht⟩) (fun _ h => absurd h List.not_mem_nil) dX3_size_18

abbrev rm_c_counts : Room := { frames := 2, cells := 0, slots := 0, locals := 47 }
set_option maxHeartbeats 4000000 in
set_option maxRecDepth 100000 in
theorem c_counts (l : Launch) (dC : Nat → ClassId) (dI : Nat → Nat → Nat) (g rv rk pt sp av ak ap a1 a2 : Nat) (kv kk kp k1 k2 : ClassId) (fv fk fp f1 f2 : Nat → Int32) (nv nk np ns : Nat) (hv : nv ≤ 100) (hk : nk ≤ 100) (hp : np ≤ 100) (hs : ns ≤ 100) (mn rl : Int32) : Met l yX3_counts (.code yX3_counts cX3_counts 5 (some (.boolean)) :: wsA) rm_c_counts (va_Pc [.ref g, .int (mn), .int (rl)] (ro (dC, dI) [(g, .inr (3, [.ref rv, .ref rk, .ref pt, .ref sp])), (rv, .inr (1, [.ref av, .int (nI nv)])), (av, .inl (kv, 100, .inl fv)), (rk, .inr (1, [.ref ak, .int (nI nk)])), (ak, .inl (kk, 100, .inl fk)), (pt, .inr (0, [.ref ap, .int (nI np)])), (ap, .inl (kp, 100, .inl fp)), (sp, .inr (2, [.ref a1, .ref a2, .int (nI ns)])), (a1, .inl (k1, 100, .inl f1)), (a2, .inl (k2, 100, .inl f2))] [(kv, .int), (kk, .int), (kp, .int), (k1, .int), (k2, .int)])) (vp_Si (fun r => r = if cs mn.toInt (kn fk nk) rl = true then 1 else 0)) 0 0 (fun _ => False) := by
  refine Met.ofW (cc := cX3_counts) (maxL := 5) (ret := (some (.boolean))) (by decide) rfl ?_
  intro p e s m args below meth c s₁ B hml hv
  obtain ⟨hargs, hN, hP, hK⟩ := hv
  have hx := B.exec
  have hb := B.bytes
  have hr := B.returns
  have hw : ∀ w ∈ wsA, w.before args s = true := fun w h => atoms_spec (ws := (.code yX3_counts cX3_counts 5 (some (.boolean)) :: wsA)) B.pre w (List.mem_cons_of_mem _ h)
  have hown : s.vm.findClass "GlobDesk" = some m.cls := findClass_of_methodNamed B.named
  have hlocks := B.notSynchronized
  generalize hQ : MQ below _ args s _ _ _ = Q
  change W p l e rm_c_counts s m args below meth c s.heap [] 0 0 Q (entryFrame m args 5)
  have hl := lv_entry ([.ref g, .int (mn), .int (rl)]) (n := 5) (Nat.le_of_ble_eq_true rfl)
  rw [show entryFrame m args 5 = entryFrame m ([.ref g, .int (mn), .int (rl)] : List Value).toArray 5 from by rw [hargs], lg_entry_eq]
  generalize (lg_sl ([.ref g, .int (mn), .int (rl)]) ++ List.replicate (5 - (lg_sl ([.ref g, .int (mn), .int (rl)])).length) Slot.unset).toArray = ls at hl ⊢
  have hl : lv_has ls 5 [(0, .ref g), (1, .int (mn)), (2, .int (rl))] := hl
  have hkn := kn_le fk nk
  refine lv_iload_n hx hb dX3_counts_0 rfl (lv_at hl 1 rfl) ?_
  refine lv_if_ge (tgt := 6) hx hb dX3_counts_1 (by decide) (fun c1_0 => ?_) (fun c1_0 => ?_)
  · skip
    have q0 : 0 ≤ mn.toInt := by rw [ti_le, tc_0] at c1_0; exact c1_0
    refine lv_aload_n hx hb dX3_counts_6 rfl (lv_at hl 0 rfl) ?_
    refine va_get (D := (dC, dI)) (ci := 3) (v := .ref rk) (C := RX3) (T := TX3) (N := 4) hx hb hw inX3 hown hK hP 0 rfl rfl 1 (by decide) (hw _ mw78) (fun _ h9 => h9) rfl dX3_counts_7 ?_
    refine lv_ldc2 (v := 10000000000) hx hb hown (hw _ mw220) dX3_counts_10 ?_
    refine vp_callSl (va_Run.run (va_runV (As := [.long (10000000000)]) (rest := []) ⟨hx, hb, hml, hown, hw⟩ (c_Row_number l dC dI rk ak kk fk nk hk) (cwV 1 hw (gV mw221 mw222 mw223 mw17 mw224) rfl rfl rfl (by decide +kernel) ⟨Nat.le_of_ble_eq_true rfl, Nat.le_of_ble_eq_true rfl⟩) (ro.V (q0 := 0) (ci := 1) hN (hK.sub (tys' := [(kk, .int)]) [1] rfl) (hP.sub (ws' := [(rk, .inr (1, [.ref ak, .int (nI nk)])), (ak, .inl (kk, 100, .inl fk))]) [3, 4] rfl) rfl rfl) rfl rfl hl.1 rfl (lv_room (Nat.le_of_ble_eq_true rfl)) dX3_counts_13 ⟨Nat.le_of_ble_eq_true rfl, Nat.le_of_ble_eq_true rfl⟩)) (fun r2 hr2 => ?_)
    subst hr2
    refine lv_lstore_n (lv' := [(3, .long (lN (kn fk nk))), (0, .ref g), (1, .int (mn)), (2, .int (rl))]) hx hb dX3_counts_16 rfl hl (by decide) rfl (fun ls hl => ?_)
    refine lv_iload_n hx hb dX3_counts_17 rfl (lv_at hl 3 rfl) ?_
    by_cases sw18_0 : rl = 0
    · skip
      refine lv_tableIn (off := 38) (tgt := 56) hx hb dX3_counts_18 (by rw [sw18_0]; decide) (by rw [sw18_0]; decide) (by rw [sw18_0]; decide) (by decide) ?_
      refine lv_iload_n hx hb dX3_counts_56 rfl (lv_at hl 2 rfl) ?_
      refine lv_i2l hx hb dX3_counts_57 rfl ?_
      refine lv_lload_n hx hb dX3_counts_58 rfl (lv_at hl 0 rfl) ?_
      refine W.lcmp hx hb dX3_counts_59 ?_
      refine lv_if_le (tgt := 67) hx hb dX3_counts_60 (by decide) (fun c60_2 => ?_) (fun c60_2 => ?_)
      · skip
        rw [lg_cmp_le, tl_le] at c60_2
        rw [i64, pk_lT (by omega)] at c60_2
        refine lv_iconst (v := 0) hx hb dX3_counts_67 (by decide) ?_
        subst hQ
        exact W.zret (v := 0) hx hb hr (by decide) (fun t ht hW => ⟨_, rfl, (by rw [sw18_0, cs_0 q0]; exact bf0 (by omega)), ht⟩) (fun _ h => absurd h List.not_mem_nil) dX3_counts_68
      · skip
        rw [lg_cmp_le, tl_le] at c60_2
        rw [i64, pk_lT (by omega)] at c60_2
        refine lv_iconst (v := 1) hx hb dX3_counts_63 (by decide) ?_
        refine lv_goto (tgt := 68) hx hb dX3_counts_64 (by decide) ?_
        subst hQ
        exact W.zret (v := 1) hx hb hr (by decide) (fun t ht hW => ⟨_, rfl, (by rw [sw18_0, cs_0 q0]; exact bf1 (by omega)), ht⟩) (fun _ h => absurd h List.not_mem_nil) dX3_counts_68
    · skip
      by_cases sw18_1 : rl = 1
      · skip
        refine lv_tableIn (off := 51) (tgt := 69) hx hb dX3_counts_18 (by rw [sw18_1]; decide) (by rw [sw18_1]; decide) (by rw [sw18_1]; decide) (by decide) ?_
        refine lv_iload_n hx hb dX3_counts_69 rfl (lv_at hl 2 rfl) ?_
        refine lv_i2l hx hb dX3_counts_70 rfl ?_
        refine lv_lload_n hx hb dX3_counts_71 rfl (lv_at hl 0 rfl) ?_
        refine W.lcmp hx hb dX3_counts_72 ?_
        refine lv_if_lt (tgt := 80) hx hb dX3_counts_73 (by decide) (fun c73_3 => ?_) (fun c73_3 => ?_)
        · skip
          rw [lg_cmp_lt, tl_lt] at c73_3
          rw [i64, pk_lT (by omega)] at c73_3
          refine lv_iconst (v := 0) hx hb dX3_counts_80 (by decide) ?_
          subst hQ
          exact W.zret (v := 0) hx hb hr (by decide) (fun t ht hW => ⟨_, rfl, (by rw [sw18_1, cs_1 q0]; exact bf0 (by omega)), ht⟩) (fun _ h => absurd h List.not_mem_nil) dX3_counts_81
        · skip
          rw [lg_cmp_lt, tl_lt] at c73_3
          rw [i64, pk_lT (by omega)] at c73_3
          refine lv_iconst (v := 1) hx hb dX3_counts_76 (by decide) ?_
          refine lv_goto (tgt := 81) hx hb dX3_counts_77 (by decide) ?_
          subst hQ
          exact W.zret (v := 1) hx hb hr (by decide) (fun t ht hW => ⟨_, rfl, (by rw [sw18_1, cs_1 q0]; exact bf1 (by omega)), ht⟩) (fun _ h => absurd h List.not_mem_nil) dX3_counts_81
      · skip
        by_cases sw18_2 : rl = 2
        · skip
          refine lv_tableIn (off := 64) (tgt := 82) hx hb dX3_counts_18 (by rw [sw18_2]; decide) (by rw [sw18_2]; decide) (by rw [sw18_2]; decide) (by decide) ?_
          refine lv_iload_n hx hb dX3_counts_82 rfl (lv_at hl 2 rfl) ?_
          refine lv_i2l hx hb dX3_counts_83 rfl ?_
          refine lv_lload_n hx hb dX3_counts_84 rfl (lv_at hl 0 rfl) ?_
          refine W.lcmp hx hb dX3_counts_85 ?_
          refine lv_if_ge (tgt := 93) hx hb dX3_counts_86 (by decide) (fun c86_4 => ?_) (fun c86_4 => ?_)
          · skip
            rw [lg_cmp_ge, tl_le] at c86_4
            rw [i64, pk_lT (by omega)] at c86_4
            refine lv_iconst (v := 0) hx hb dX3_counts_93 (by decide) ?_
            subst hQ
            exact W.zret (v := 0) hx hb hr (by decide) (fun t ht hW => ⟨_, rfl, (by rw [sw18_2, cs_2 q0]; exact bf0 (by omega)), ht⟩) (fun _ h => absurd h List.not_mem_nil) dX3_counts_94
          · skip
            rw [lg_cmp_ge, tl_le] at c86_4
            rw [i64, pk_lT (by omega)] at c86_4
            refine lv_iconst (v := 1) hx hb dX3_counts_89 (by decide) ?_
            refine lv_goto (tgt := 94) hx hb dX3_counts_90 (by decide) ?_
            subst hQ
            exact W.zret (v := 1) hx hb hr (by decide) (fun t ht hW => ⟨_, rfl, (by rw [sw18_2, cs_2 q0]; exact bf1 (by omega)), ht⟩) (fun _ h => absurd h List.not_mem_nil) dX3_counts_94
        · skip
          by_cases sw18_3 : rl = 3
          · skip
            refine lv_tableIn (off := 77) (tgt := 95) hx hb dX3_counts_18 (by rw [sw18_3]; decide) (by rw [sw18_3]; decide) (by rw [sw18_3]; decide) (by decide) ?_
            refine lv_iload_n hx hb dX3_counts_95 rfl (lv_at hl 2 rfl) ?_
            refine lv_i2l hx hb dX3_counts_96 rfl ?_
            refine lv_lload_n hx hb dX3_counts_97 rfl (lv_at hl 0 rfl) ?_
            refine W.lcmp hx hb dX3_counts_98 ?_
            refine lv_if_gt (tgt := 106) hx hb dX3_counts_99 (by decide) (fun c99_5 => ?_) (fun c99_5 => ?_)
            · skip
              rw [lg_cmp_gt, tl_lt] at c99_5
              rw [i64, pk_lT (by omega)] at c99_5
              refine lv_iconst (v := 0) hx hb dX3_counts_106 (by decide) ?_
              subst hQ
              exact W.zret (v := 0) hx hb hr (by decide) (fun t ht hW => ⟨_, rfl, (by rw [sw18_3, cs_3 q0]; exact bf0 (by omega)), ht⟩) (fun _ h => absurd h List.not_mem_nil) dX3_counts_107
            · skip
              rw [lg_cmp_gt, tl_lt] at c99_5
              rw [i64, pk_lT (by omega)] at c99_5
              refine lv_iconst (v := 1) hx hb dX3_counts_102 (by decide) ?_
              refine lv_goto (tgt := 107) hx hb dX3_counts_103 (by decide) ?_
              subst hQ
              exact W.zret (v := 1) hx hb hr (by decide) (fun t ht hW => ⟨_, rfl, (by rw [sw18_3, cs_3 q0]; exact bf1 (by omega)), ht⟩) (fun _ h => absurd h List.not_mem_nil) dX3_counts_107
          · skip
            by_cases sw18_4 : rl = 4
            · skip
              refine lv_tableIn (off := 90) (tgt := 108) hx hb dX3_counts_18 (by rw [sw18_4]; decide) (by rw [sw18_4]; decide) (by rw [sw18_4]; decide) (by decide) ?_
              refine lv_iload_n hx hb dX3_counts_108 rfl (lv_at hl 2 rfl) ?_
              refine lv_i2l hx hb dX3_counts_109 rfl ?_
              refine lv_lload_n hx hb dX3_counts_110 rfl (lv_at hl 0 rfl) ?_
              refine W.lcmp hx hb dX3_counts_111 ?_
              refine lv_if_ne (tgt := 119) hx hb dX3_counts_112 (by decide) (fun c112_6 => ?_) (fun c112_6 => ?_)
              · skip
                rw [lg_cmp_eq, tl_eq] at c112_6
                rw [i64, pk_lT (by omega)] at c112_6
                refine lv_iconst (v := 0) hx hb dX3_counts_119 (by decide) ?_
                subst hQ
                exact W.zret (v := 0) hx hb hr (by decide) (fun t ht hW => ⟨_, rfl, (by rw [sw18_4, cs_4 q0]; exact bf0 (by omega)), ht⟩) (fun _ h => absurd h List.not_mem_nil) dX3_counts_120
              · skip
                rw [lg_cmp_eq, tl_eq] at c112_6
                rw [i64, pk_lT (by omega)] at c112_6
                refine lv_iconst (v := 1) hx hb dX3_counts_115 (by decide) ?_
                refine lv_goto (tgt := 120) hx hb dX3_counts_116 (by decide) ?_
                subst hQ
                exact W.zret (v := 1) hx hb hr (by decide) (fun t ht hW => ⟨_, rfl, (by rw [sw18_4, cs_4 q0]; exact bf1 (by omega)), ht⟩) (fun _ h => absurd h List.not_mem_nil) dX3_counts_120
            · skip
              by_cases sw18_5 : rl = 5
              · skip
                refine lv_tableIn (off := 103) (tgt := 121) hx hb dX3_counts_18 (by rw [sw18_5]; decide) (by rw [sw18_5]; decide) (by rw [sw18_5]; decide) (by decide) ?_
                refine lv_iload_n hx hb dX3_counts_121 rfl (lv_at hl 2 rfl) ?_
                refine lv_i2l hx hb dX3_counts_122 rfl ?_
                refine lv_lload_n hx hb dX3_counts_123 rfl (lv_at hl 0 rfl) ?_
                refine W.lcmp hx hb dX3_counts_124 ?_
                refine lv_if_eq (tgt := 132) hx hb dX3_counts_125 (by decide) (fun c125_7 => ?_) (fun c125_7 => ?_)
                · skip
                  rw [lg_cmp_eq, tl_eq] at c125_7
                  rw [i64, pk_lT (by omega)] at c125_7
                  refine lv_iconst (v := 0) hx hb dX3_counts_132 (by decide) ?_
                  subst hQ
                  exact W.zret (v := 0) hx hb hr (by decide) (fun t ht hW => ⟨_, rfl, (by rw [sw18_5, cs_5 q0]; exact bf0 (by omega)), ht⟩) (fun _ h => absurd h List.not_mem_nil) dX3_counts_133
                · skip
                  rw [lg_cmp_eq, tl_eq] at c125_7
                  rw [i64, pk_lT (by omega)] at c125_7
                  refine lv_iconst (v := 1) hx hb dX3_counts_128 (by decide) ?_
                  refine lv_goto (tgt := 133) hx hb dX3_counts_129 (by decide) ?_
                  subst hQ
                  exact W.zret (v := 1) hx hb hr (by decide) (fun t ht hW => ⟨_, rfl, (by rw [sw18_5, cs_5 q0]; exact bf1 (by omega)), ht⟩) (fun _ h => absurd h List.not_mem_nil) dX3_counts_133
              · skip
                have tsw18_0 := lv_neT (a := 0) sw18_0 (by decide)
                have tsw18_1 := lv_neT (a := 1) sw18_1 (by decide)
                have tsw18_2 := lv_neT (a := 2) sw18_2 (by decide)
                have tsw18_3 := lv_neT (a := 3) sw18_3 (by decide)
                have tsw18_4 := lv_neT (a := 4) sw18_4 (by decide)
                have tsw18_5 := lv_neT (a := 5) sw18_5 (by decide)
                refine lv_tableOut (tgt := 134) hx hb dX3_counts_18 (by omega) (by decide) ?_
                refine lv_iconst (v := 0) hx hb dX3_counts_134 (by decide) ?_
                subst hQ
                exact W.zret (v := 0) hx hb hr (by decide) (fun t ht hW => ⟨_, rfl, (by rw [cs_out sw18_0 sw18_1 sw18_2 sw18_3 sw18_4 sw18_5]; rfl), ht⟩) (fun _ h => absurd h List.not_mem_nil) dX3_counts_135
  · skip
    have q0 : ¬ 0 ≤ mn.toInt := by rw [ti_le, tc_0] at c1_0; exact c1_0
    refine lv_iconst (v := 0) hx hb dX3_counts_4 (by decide) ?_
    subst hQ
    exact W.zret (v := 0) hx hb hr (by decide) (fun t ht hW => ⟨_, rfl, (by rw [cs_neg q0]; rfl), ht⟩) (fun _ h => absurd h List.not_mem_nil) dX3_counts_5
