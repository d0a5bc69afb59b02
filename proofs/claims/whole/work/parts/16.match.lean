abbrev rm_c_con : Room := { frames := 3, cells := 0, slots := 0, locals := 75 }
set_option maxHeartbeats 4000000 in
set_option maxRecDepth 100000 in
theorem c_con (l : Launch) (dC : Nat → ClassId) (dI : Nat → Nat → Nat) (sz : Nat) (g rv rk pt sp av ak ap a1 a2 : Nat) (kv kk kp k1 k2 : ClassId) (fv fk fp f1 f2 : Nat → Int32) (nv nk np : Nat) (hv : nv ≤ 100) (hk : nk ≤ 100) (hp : np ≤ 100) (cp : Int32) : Met l yX3_containsKey (.code yX3_containsKey cX3_containsKey 3 (some (.boolean)) :: wsA) rm_c_con (va_Pc [.ref g, .int (cp)] (wr (dC, dI) [(g, .inr (3, [.ref rv, .ref rk, .ref pt, .ref sp])), (rv, .inr (1, [.ref av, .int (nI nv)])), (av, .inl (kv, 100, .inl fv)), (rk, .inr (1, [.ref ak, .int (nI nk)])), (ak, .inl (kk, 100, .inl fk)), (pt, .inr (0, [.ref ap, .int (nI np)])), (ap, .inl (kp, 100, .inl fp)), (sp, .inr (2, [.ref a1, .ref a2, .int (nI 0)])), (a1, .inl (k1, 100, .inl f1)), (a2, .inl (k2, 100, .inl f2))] [(kv, .int), (kk, .int), (kp, .int), (k1, .int), (k2, .int)] sz)) (va_Qi (fun (r : Int32) (u : (Nat → Int32) × Nat × (Nat → Int32) × (Nat → Int32) × Nat) => u.2.1 ≤ 100 ∧ u.2.2.2.2 ≤ 100 ∧ mres (sCon fv fk nv nk cp) r u.2.2.1 u.2.2.2.1 u.2.2.2.2) (wB (dC, dI) (va_A [(g, .inr (3, [.ref rv, .ref rk, .ref pt, .ref sp])), (rv, .inr (1, [.ref av, .int (nI nv)])), (av, .inl (kv, 100, .inl fv)), (rk, .inr (1, [.ref ak, .int (nI nk)])), (ak, .inl (kk, 100, .inl fk)), (pt, .inr (0, [.ref ap, .int (nI np)])), (ap, .inl (kp, 100, .inl fp)), (sp, .inr (2, [.ref a1, .ref a2, .int (nI 0)])), (a1, .inl (k1, 100, .inl f1)), (a2, .inl (k2, 100, .inl f2))] sz) (fun u : (Nat → Int32) × Nat × (Nat → Int32) × (Nat → Int32) × Nat => [(g, .inr (3, [.ref rv, .ref rk, .ref pt, .ref sp])), (rv, .inr (1, [.ref av, .int (nI nv)])), (av, .inl (kv, 100, .inl fv)), (rk, .inr (1, [.ref ak, .int (nI nk)])), (ak, .inl (kk, 100, .inl fk)), (pt, .inr (0, [.ref ap, .int (nI u.2.1)])), (ap, .inl (kp, 100, .inl (u.1))), (sp, .inr (2, [.ref a1, .ref a2, .int (nI u.2.2.2.2)])), (a1, .inl (k1, 100, .inl (u.2.2.1))), (a2, .inl (k2, 100, .inl (u.2.2.2.1)))])) (va_A [(g, .inr (3, [.ref rv, .ref rk, .ref pt, .ref sp])), (rv, .inr (1, [.ref av, .int (nI nv)])), (av, .inl (kv, 100, .inl fv)), (rk, .inr (1, [.ref ak, .int (nI nk)])), (ak, .inl (kk, 100, .inl fk)), (pt, .inr (0, [.ref ap, .int (nI np)])), (ap, .inl (kp, 100, .inl fp)), (sp, .inr (2, [.ref a1, .ref a2, .int (nI 0)])), (a1, .inl (k1, 100, .inl f1)), (a2, .inl (k2, 100, .inl f2))] sz)) 0 0 (va_A [(g, .inr (3, [.ref rv, .ref rk, .ref pt, .ref sp])), (rv, .inr (1, [.ref av, .int (nI nv)])), (av, .inl (kv, 100, .inl fv)), (rk, .inr (1, [.ref ak, .int (nI nk)])), (ak, .inl (kk, 100, .inl fk)), (pt, .inr (0, [.ref ap, .int (nI np)])), (ap, .inl (kp, 100, .inl fp)), (sp, .inr (2, [.ref a1, .ref a2, .int (nI 0)])), (a1, .inl (k1, 100, .inl f1)), (a2, .inl (k2, 100, .inl f2))] sz) := by
  refine Met.ofW (cc := cX3_containsKey) (maxL := 3) (ret := (some (.boolean))) (by decide) rfl ?_
  intro p e s m args below meth c s₁ B hml hv
  obtain ⟨hargs, hsz, hN, hP, hK, hD0⟩ := hv
  have hx := B.exec
  have hb := B.bytes
  have hr := B.returns
  have hw : ∀ w ∈ wsA, w.before args s = true := fun w h => atoms_spec (ws := (.code yX3_containsKey cX3_containsKey 3 (some (.boolean)) :: wsA)) B.pre w (List.mem_cons_of_mem _ h)
  have hown : s.vm.findClass "GlobDesk" = some m.cls := findClass_of_methodNamed B.named
  have hlocks := B.notSynchronized
  subst hsz
  have hD := hD0.self (sz := s.heap.size)
  generalize hAe : va_A [(g, .inr (3, [.ref rv, .ref rk, .ref pt, .ref sp])), (rv, .inr (1, [.ref av, .int (nI nv)])), (av, .inl (kv, 100, .inl fv)), (rk, .inr (1, [.ref ak, .int (nI nk)])), (ak, .inl (kk, 100, .inl fk)), (pt, .inr (0, [.ref ap, .int (nI np)])), (ap, .inl (kp, 100, .inl fp)), (sp, .inr (2, [.ref a1, .ref a2, .int (nI 0)])), (a1, .inl (k1, 100, .inl f1)), (a2, .inl (k2, 100, .inl f2))] s.heap.size = A at hD ⊢
  have hA : ∀ q : Nat, s.heap.size ≤ q → A q := fun q h => by rw [← hAe]; exact Or.inr h
  have hS : va_S A s.heap s.heap [] := va_S.rf
  generalize hQ : MQ below _ args s _ _ _ = Q
  change W p l e rm_c_con s m args below meth c s.heap [] 0 0 Q (entryFrame m args 3)
  have hl := lv_entry ([.ref g, .int (cp)]) (n := 3) (Nat.le_of_ble_eq_true rfl)
  rw [show entryFrame m args 3 = entryFrame m ([.ref g, .int (cp)] : List Value).toArray 3 from by rw [hargs], lg_entry_eq]
  generalize (lg_sl ([.ref g, .int (cp)]) ++ List.replicate (3 - (lg_sl ([.ref g, .int (cp)])).length) Slot.unset).toArray = ls at hl ⊢
  have hl : lv_has ls 3 [(0, .ref g), (1, .int (cp))] := hl
  refine lv_aload_n hx hb dX3_containsKey_0 rfl (lv_at hl 0 rfl) ?_
  refine va_get (D := (dC, dI)) (ci := 3) (v := .ref pt) (C := RX3) (T := TX3) (N := 4) hx hb hw inX3 hown hK hP 0 rfl rfl 2 (by decide) (hw _ mw79) (fun _ h9 => h9) rfl dX3_containsKey_1 ?_
  refine lv_aload_n hx hb dX3_containsKey_4 rfl (lv_at hl 0 rfl) ?_
  refine va_get (D := (dC, dI)) (ci := 3) (v := .ref rk) (C := RX3) (T := TX3) (N := 4) hx hb hw inX3 hown hK hP 0 rfl rfl 1 (by decide) (hw _ mw78) (fun _ h9 => h9) rfl dX3_containsKey_5 ?_
  have hPc := hP.sub (ws' := [(pt, .inr (0, [.ref ap, .int (nI np)])), (ap, .inl (kp, 100, .inl fp)), (rk, .inr (1, [.ref ak, .int (nI nk)])), (ak, .inl (kk, 100, .inl fk))]) [5, 6, 3, 4] rfl
  have hDc := hD.sub (ws' := [(pt, .inr (0, [.ref ap, .int (nI np)])), (ap, .inl (kp, 100, .inl fp)), (rk, .inr (1, [.ref ak, .int (nI nk)])), (ak, .inl (kk, 100, .inl fk))]) [5, 6, 3, 4] (by decide) rfl
  have hKc := hK.sub (tys' := [(kp, .int), (kk, .int)]) [2, 1] rfl
  have hFc := va_free (wc := [(pt, .inr (0, [.ref ap, .int (nI np)])), (ap, .inl (kp, 100, .inl fp)), (rk, .inr (1, [.ref ak, .int (nI nk)])), (ak, .inl (kk, 100, .inl fk))]) hD hS hA [5, 6, 3, 4] rfl
  refine va_callv (va_runV (As := [.ref rk]) (rest := []) ⟨hx, hb, hml, hown, hw⟩ (c_Pat_plain l dC dI s.heap.size pt ap kp fp np rk ak kk fk nk hk) (cwV 1 hw (gV mw155 mw156 mw157 mw18 mw158) rfl rfl rfl (by decide +kernel) ⟨Nat.le_of_ble_eq_true rfl, Nat.le_of_ble_eq_true rfl⟩) (wr.V (q0 := 0) (ci := 0) hN hKc hPc hDc rfl rfl) rfl rfl hl.1 rfl (lv_room (Nat.le_of_ble_eq_true rfl)) dX3_containsKey_8 ⟨Nat.le_of_ble_eq_true rfl, Nat.le_of_ble_eq_true rfl⟩) hS (fun q _ h => hFc q h) hFc (fun ur1 t H1 locs ht hvm hr1 hB hz1 hk1 hS => ?_)
  obtain ⟨w, p1⟩ := ur1
  obtain ⟨hpl, hw9⟩ := hr1
  dsimp only at hpl hw9
  rw [hpl] at hB
  have hfe : fpF w fv nv cp 0 nk 0 = fpF fk fv nv cp 0 nk 0 := fpA_congr (fun j _ h => hw9 j h) _ _
  obtain ⟨hP1, hD1⟩ := hB
  rw [ht] at hP1
  obtain ⟨hP, hD⟩ := va_join (wr := [(g, .inr (3, [.ref rv, .ref rk, .ref pt, .ref sp])), (rv, .inr (1, [.ref av, .int (nI nv)])), (av, .inl (kv, 100, .inl fv)), (sp, .inr (2, [.ref a1, .ref a2, .int (nI 0)])), (a1, .inl (k1, 100, .inl f1)), (a2, .inl (k2, 100, .inl f2))]) (w1 := [(pt, .inr (0, [.ref ap, .int (nI nk)])), (ap, .inl (kp, 100, .inl w)), (rk, .inr (1, [.ref ak, .int (nI nk)])), (ak, .inl (kk, 100, .inl fk))]) hP hD [5, 6, 3, 4] [0, 1, 2, 7, 8, 9] rfl rfl (by decide) (by decide) hk1 hFc hP1 hD1
  generalize H1 = H at hP hS ⊢
  have hP : va_P (dC, dI) cl5 [(g, .inr (3, [.ref rv, .ref rk, .ref pt, .ref sp])), (rv, .inr (1, [.ref av, .int (nI nv)])), (av, .inl (kv, 100, .inl fv)), (rk, .inr (1, [.ref ak, .int (nI nk)])), (ak, .inl (kk, 100, .inl fk)), (pt, .inr (0, [.ref ap, .int (nI nk)])), (ap, .inl (kp, 100, .inl w)), (sp, .inr (2, [.ref a1, .ref a2, .int (nI 0)])), (a1, .inl (k1, 100, .inl f1)), (a2, .inl (k2, 100, .inl f2))] H := hP.sub [0, 1, 2, 8, 9, 6, 7, 3, 4, 5] rfl
  have hD : va_D A [(g, .inr (3, [.ref rv, .ref rk, .ref pt, .ref sp])), (rv, .inr (1, [.ref av, .int (nI nv)])), (av, .inl (kv, 100, .inl fv)), (rk, .inr (1, [.ref ak, .int (nI nk)])), (ak, .inl (kk, 100, .inl fk)), (pt, .inr (0, [.ref ap, .int (nI nk)])), (ap, .inl (kp, 100, .inl w)), (sp, .inr (2, [.ref a1, .ref a2, .int (nI 0)])), (a1, .inl (k1, 100, .inl f1)), (a2, .inl (k2, 100, .inl f2))] := hD.sub [0, 1, 2, 8, 9, 6, 7, 3, 4, 5] (by decide) rfl
  refine lv_aload_n hx hb dX3_containsKey_11 rfl (lv_at hl 0 rfl) ?_
  refine lv_iconst (v := 0) hx hb dX3_containsKey_12 (by decide) ?_
  refine lv_topi (fun x2 ex2 => ?_)
  obtain rfl : x2 = nI 0 := by rw [ex2]; exact nI_0.symm
  refine lv_aload_n hx hb dX3_containsKey_13 rfl (lv_at hl 0 rfl) ?_
  refine va_get (D := (dC, dI)) (ci := 3) (v := .ref pt) (C := RX3) (T := TX3) (N := 4) hx hb hw inX3 hown hK hP 0 rfl rfl 2 (by decide) (hw _ mw79) (fun _ h9 => h9) rfl dX3_containsKey_14 ?_
  refine va_getN (D := (dC, dI)) (ci := 0) (v := .int (nI nk)) (C := RX0) (T := TX0) (N := 2) hx hb hw inX0 hown hK hP 5 rfl rfl 1 (by decide) (va_Nw.use rfl hN.2.2.2.2.1) (fun _ h9 => h9) rfl dX3_containsKey_17 ?_
  refine lv_iconst (v := 0) hx hb dX3_containsKey_20 (by decide) ?_
  refine lv_topi (fun x3 ex3 => ?_)
  obtain rfl : x3 = nI 0 := by rw [ex3]; exact nI_0.symm
  refine lv_iload_n hx hb dX3_containsKey_21 rfl (lv_at hl 1 rfl) ?_
  refine vp_callSi (va_Run.run (va_runV (As := [.int (nI 0), .int (nI nk), .int (nI 0), .int (cp)]) (rest := []) ⟨hx, hb, hml, hown, hw⟩ (c_first l dC dI g rv rk pt sp av ak ap a1 a2 kv kk kp k1 k2 fv fk w f1 f2 nv nk nk 0 hv hk hk (Nat.zero_le _) 0 nk 0 cp (Nat.zero_le _) (Nat.le_refl _) (Nat.zero_le _)) (cwV 4 hw (gV mw164 mw166 mw7 mw16 mw167) rfl rfl rfl (by decide +kernel) ⟨Nat.le_of_ble_eq_true rfl, Nat.le_of_ble_eq_true rfl⟩) (ro.V (q0 := 0) (ci := 3) hN (hK.sub (tys' := [(kv, .int), (kk, .int), (kp, .int), (k1, .int), (k2, .int)]) [0, 1, 2, 3, 4] rfl) (hP.sub (ws' := [(g, .inr (3, [.ref rv, .ref rk, .ref pt, .ref sp])), (rv, .inr (1, [.ref av, .int (nI nv)])), (av, .inl (kv, 100, .inl fv)), (rk, .inr (1, [.ref ak, .int (nI nk)])), (ak, .inl (kk, 100, .inl fk)), (pt, .inr (0, [.ref ap, .int (nI nk)])), (ap, .inl (kp, 100, .inl w)), (sp, .inr (2, [.ref a1, .ref a2, .int (nI 0)])), (a1, .inl (k1, 100, .inl f1)), (a2, .inl (k2, 100, .inl f2))]) [0, 1, 2, 3, 4, 5, 6, 7, 8, 9] rfl) rfl rfl) rfl rfl hl.1 rfl (lv_room (Nat.le_of_ble_eq_true rfl)) dX3_containsKey_22 ⟨Nat.le_of_ble_eq_true rfl, Nat.le_of_ble_eq_true rfl⟩)) (fun r4 hr4 => ?_)
  rw [hfe] at hr4
  subst hr4
  refine lv_istore_n (lv' := [(2, .int (fpF fk fv nv cp 0 nk 0)), (0, .ref g), (1, .int (cp))]) hx hb dX3_containsKey_25 rfl hl (by decide) rfl (fun ls hl => ?_)
  refine lv_iload_n hx hb dX3_containsKey_26 rfl (lv_at hl 0 rfl) ?_
  refine lv_iconst (v := -1) hx hb dX3_containsKey_27 (by decide) ?_
  refine lv_icmp_ne (tgt := 33) hx hb dX3_containsKey_28 (by decide) (fun c28_4 => ?_) (fun c28_4 => ?_)
  · skip
    obtain ⟨x0, ex0, gx1, gx2, -, -⟩ := fp_some c28_4
    rw [ex0] at hl
    refine lv_aload_n hx hb dX3_containsKey_33 rfl (lv_at hl 1 rfl) ?_
    refine va_get (D := (dC, dI)) (ci := 3) (v := .ref sp) (C := RX3) (T := TX3) (N := 4) hx hb hw inX3 hown hK hP 0 rfl rfl 3 (by decide) (hw _ mw80) (fun _ h9 => h9) rfl dX3_containsKey_34 ?_
    refine lv_iload_n hx hb dX3_containsKey_37 rfl (lv_at hl 0 rfl) ?_
    refine lv_aload_n hx hb dX3_containsKey_38 rfl (lv_at hl 1 rfl) ?_
    refine va_get (D := (dC, dI)) (ci := 3) (v := .ref pt) (C := RX3) (T := TX3) (N := 4) hx hb hw inX3 hown hK hP 0 rfl rfl 2 (by decide) (hw _ mw79) (fun _ h9 => h9) rfl dX3_containsKey_39 ?_
    refine va_getN (D := (dC, dI)) (ci := 0) (v := .int (nI nk)) (C := RX0) (T := TX0) (N := 2) hx hb hw inX0 hown hK hP 5 rfl rfl 1 (by decide) (va_Nw.use rfl hN.2.2.2.2.1) (fun _ h9 => h9) rfl dX3_containsKey_42 ?_
    have hPc := hP.sub (ws' := [(sp, .inr (2, [.ref a1, .ref a2, .int (nI 0)])), (a1, .inl (k1, 100, .inl f1)), (a2, .inl (k2, 100, .inl f2))]) [7, 8, 9] rfl
    have hDc := hD.sub (ws' := [(sp, .inr (2, [.ref a1, .ref a2, .int (nI 0)])), (a1, .inl (k1, 100, .inl f1)), (a2, .inl (k2, 100, .inl f2))]) [7, 8, 9] (by decide) rfl
    have hKc := hK.sub (tys' := [(k1, .int), (k2, .int)]) [3, 4] rfl
    have hFc := va_free (wc := [(sp, .inr (2, [.ref a1, .ref a2, .int (nI 0)])), (a1, .inl (k1, 100, .inl f1)), (a2, .inl (k2, 100, .inl f2))]) hD hS hA [7, 8, 9] rfl
    refine va_callv (va_runV (As := [.int (nI x0), .int (nI nk)]) (rest := []) ⟨hx, hb, hml, hown, hw⟩ (c_Sp_append l dC dI H.size sp a1 a2 k1 k2 f1 f2 0 (by omega) (nI x0) (nI nk)) (cwV 2 hw (gV mw176 mw177 mw178 mw19 mw179) rfl rfl rfl (by decide +kernel) ⟨Nat.le_of_ble_eq_true rfl, Nat.le_of_ble_eq_true rfl⟩) (wr.V (q0 := 0) (ci := 2) hN hKc hPc hDc rfl rfl) rfl rfl hl.1 rfl (lv_room (Nat.le_of_ble_eq_true rfl)) dX3_containsKey_45 ⟨Nat.le_of_ble_eq_true rfl, Nat.le_of_ble_eq_true rfl⟩) hS (fun q _ h => hFc q h) hFc (fun ur6 t H1 locs ht hvm hr6 hB hz1 hk1 hS => ?_)
    subst hr6
    obtain ⟨hP1, hD1⟩ := hB
    rw [ht] at hP1
    obtain ⟨hP, hD⟩ := va_join (wr := [(g, .inr (3, [.ref rv, .ref rk, .ref pt, .ref sp])), (rv, .inr (1, [.ref av, .int (nI nv)])), (av, .inl (kv, 100, .inl fv)), (rk, .inr (1, [.ref ak, .int (nI nk)])), (ak, .inl (kk, 100, .inl fk)), (pt, .inr (0, [.ref ap, .int (nI nk)])), (ap, .inl (kp, 100, .inl w))]) (w1 := [(sp, .inr (2, [.ref a1, .ref a2, .int (nI (0 + 1))])), (a1, .inl (k1, 100, .inl (upd f1 0 (nI x0)))), (a2, .inl (k2, 100, .inl (upd f2 0 (nI nk))))]) hP hD [7, 8, 9] [0, 1, 2, 3, 4, 5, 6] rfl rfl (by decide) (by decide) hk1 hFc hP1 hD1
    generalize H1 = H at hP hS ⊢
    have hP : va_P (dC, dI) cl5 [(g, .inr (3, [.ref rv, .ref rk, .ref pt, .ref sp])), (rv, .inr (1, [.ref av, .int (nI nv)])), (av, .inl (kv, 100, .inl fv)), (rk, .inr (1, [.ref ak, .int (nI nk)])), (ak, .inl (kk, 100, .inl fk)), (pt, .inr (0, [.ref ap, .int (nI nk)])), (ap, .inl (kp, 100, .inl w)), (sp, .inr (2, [.ref a1, .ref a2, .int (nI (0 + 1))])), (a1, .inl (k1, 100, .inl (upd f1 0 (nI x0)))), (a2, .inl (k2, 100, .inl (upd f2 0 (nI nk))))] H := hP.sub [0, 1, 2, 3, 4, 5, 6, 7, 8, 9] rfl
    have hD : va_D A [(g, .inr (3, [.ref rv, .ref rk, .ref pt, .ref sp])), (rv, .inr (1, [.ref av, .int (nI nv)])), (av, .inl (kv, 100, .inl fv)), (rk, .inr (1, [.ref ak, .int (nI nk)])), (ak, .inl (kk, 100, .inl fk)), (pt, .inr (0, [.ref ap, .int (nI nk)])), (ap, .inl (kp, 100, .inl w)), (sp, .inr (2, [.ref a1, .ref a2, .int (nI (0 + 1))])), (a1, .inl (k1, 100, .inl (upd f1 0 (nI x0)))), (a2, .inl (k2, 100, .inl (upd f2 0 (nI nk))))] := hD.sub [0, 1, 2, 3, 4, 5, 6, 7, 8, 9] (by decide) rfl
    refine lv_iconst (v := 1) hx hb dX3_containsKey_48 (by decide) ?_
    subst hQ
    exact W.zret (v := 1) hx hb hr (by decide) (fun t ht hW => ⟨⟨_, (w, nk, upd f1 0 (nI x0), upd f2 0 (nI nk), 0 + 1), rfl, ⟨hk, by show 0 + 1 ≤ 100; omega, Or.inl ⟨rfl, [(x0, nk)], ⟨x0, by omega, ex0, rfl⟩, spIs_add spIs_0⟩⟩, by rw [ht]; exact hP, hD⟩, hS.F ht⟩) hS.2.2 dX3_containsKey_49
  · skip
    have q1 := c28_4
    refine lv_iconst (v := 0) hx hb dX3_containsKey_31 (by decide) ?_
    subst hQ
    exact W.zret (v := 0) hx hb hr (by decide) (fun t ht hW => ⟨⟨_, (w, nk, f1, f2, 0), rfl, ⟨hk, Nat.zero_le _, Or.inr ⟨rfl, con_no (by first | exact q1 | exact Decidable.not_not.mp q1)⟩⟩, by rw [ht]; exact hP, hD⟩, hS.F ht⟩) hS.2.2 dX3_containsKey_32

abbrev rm_c_like : Room := { frames := 3, cells := 0, slots := 0, locals := 75 }
set_option maxHeartbeats 4000000 in
set_option maxRecDepth 100000 in
theorem c_like (l : Launch) (dC : Nat → ClassId) (dI : Nat → Nat → Nat) (sz : Nat) (g rv rk pt sp av ak ap a1 a2 : Nat) (kv kk kp k1 k2 : ClassId) (fv fk fp f1 f2 : Nat → Int32) (nv nk np : Nat) (hv : nv ≤ 100) (hk : nk ≤ 100) (hp : np ≤ 100) (cp : Int32) : Met l yX3_isLikeKey (.code yX3_isLikeKey cX3_isLikeKey 9 (some (.boolean)) :: wsA) rm_c_like (va_Pc [.ref g, .int (cp)] (wr (dC, dI) [(g, .inr (3, [.ref rv, .ref rk, .ref pt, .ref sp])), (rv, .inr (1, [.ref av, .int (nI nv)])), (av, .inl (kv, 100, .inl fv)), (rk, .inr (1, [.ref ak, .int (nI nk)])), (ak, .inl (kk, 100, .inl fk)), (pt, .inr (0, [.ref ap, .int (nI np)])), (ap, .inl (kp, 100, .inl fp)), (sp, .inr (2, [.ref a1, .ref a2, .int (nI 0)])), (a1, .inl (k1, 100, .inl f1)), (a2, .inl (k2, 100, .inl f2))] [(kv, .int), (kk, .int), (kp, .int), (k1, .int), (k2, .int)] sz)) (va_Qi (fun (r : Int32) (u : (Nat → Int32) × Nat × (Nat → Int32) × (Nat → Int32) × Nat) => u.2.1 ≤ 100 ∧ u.2.2.2.2 ≤ 100 ∧ mres (sLike fv fk nv nk cp) r u.2.2.1 u.2.2.2.1 u.2.2.2.2) (wB (dC, dI) (va_A [(g, .inr (3, [.ref rv, .ref rk, .ref pt, .ref sp])), (rv, .inr (1, [.ref av, .int (nI nv)])), (av, .inl (kv, 100, .inl fv)), (rk, .inr (1, [.ref ak, .int (nI nk)])), (ak, .inl (kk, 100, .inl fk)), (pt, .inr (0, [.ref ap, .int (nI np)])), (ap, .inl (kp, 100, .inl fp)), (sp, .inr (2, [.ref a1, .ref a2, .int (nI 0)])), (a1, .inl (k1, 100, .inl f1)), (a2, .inl (k2, 100, .inl f2))] sz) (fun u : (Nat → Int32) × Nat × (Nat → Int32) × (Nat → Int32) × Nat => [(g, .inr (3, [.ref rv, .ref rk, .ref pt, .ref sp])), (rv, .inr (1, [.ref av, .int (nI nv)])), (av, .inl (kv, 100, .inl fv)), (rk, .inr (1, [.ref ak, .int (nI nk)])), (ak, .inl (kk, 100, .inl fk)), (pt, .inr (0, [.ref ap, .int (nI u.2.1)])), (ap, .inl (kp, 100, .inl (u.1))), (sp, .inr (2, [.ref a1, .ref a2, .int (nI u.2.2.2.2)])), (a1, .inl (k1, 100, .inl (u.2.2.1))), (a2, .inl (k2, 100, .inl (u.2.2.2.1)))])) (va_A [(g, .inr (3, [.ref rv, .ref rk, .ref pt, .ref sp])), (rv, .inr (1, [.ref av, .int (nI nv)])), (av, .inl (kv, 100, .inl fv)), (rk, .inr (1, [.ref ak, .int (nI nk)])), (ak, .inl (kk, 100, .inl fk)), (pt, .inr (0, [.ref ap, .int (nI np)])), (ap, .inl (kp, 100, .inl fp)), (sp, .inr (2, [.ref a1, .ref a2, .int (nI 0)])), (a1, .inl (k1, 100, .inl f1)), (a2, .inl (k2, 100, .inl f2))] sz)) 0 0 (va_A [(g, .inr (3, [.ref rv, .ref rk, .ref pt, .ref sp])), (rv, .inr (1, [.ref av, .int (nI nv)])), (av, .inl (kv, 100, .inl fv)), (rk, .inr (1, [.ref ak, .int (nI nk)])), (ak, .inl (kk, 100, .inl fk)), (pt, .inr (0, [.ref ap, .int (nI np)])), (ap, .inl (kp, 100, .inl fp)), (sp, .inr (2, [.ref a1, .ref a2, .int (nI 0)])), (a1, .inl (k1, 100, .inl f1)), (a2, .inl (k2, 100, .inl f2))] sz) := by
  refine Met.ofW (cc := cX3_isLikeKey) (maxL := 9) (ret := (some (.boolean))) (by decide) rfl ?_
  intro p e s m args below meth c s₁ B hml hv
  obtain ⟨hargs, hsz, hN, hP, hK, hD0⟩ := hv
  have hx := B.exec
  have hb := B.bytes
  have hr := B.returns
  have hw : ∀ w ∈ wsA, w.before args s = true := fun w h => atoms_spec (ws := (.code yX3_isLikeKey cX3_isLikeKey 9 (some (.boolean)) :: wsA)) B.pre w (List.mem_cons_of_mem _ h)
  have hown : s.vm.findClass "GlobDesk" = some m.cls := findClass_of_methodNamed B.named
  have hlocks := B.notSynchronized
  subst hsz
  have hD := hD0.self (sz := s.heap.size)
  generalize hAe : va_A [(g, .inr (3, [.ref rv, .ref rk, .ref pt, .ref sp])), (rv, .inr (1, [.ref av, .int (nI nv)])), (av, .inl (kv, 100, .inl fv)), (rk, .inr (1, [.ref ak, .int (nI nk)])), (ak, .inl (kk, 100, .inl fk)), (pt, .inr (0, [.ref ap, .int (nI np)])), (ap, .inl (kp, 100, .inl fp)), (sp, .inr (2, [.ref a1, .ref a2, .int (nI 0)])), (a1, .inl (k1, 100, .inl f1)), (a2, .inl (k2, 100, .inl f2))] s.heap.size = A at hD ⊢
  have hA : ∀ q : Nat, s.heap.size ≤ q → A q := fun q h => by rw [← hAe]; exact Or.inr h
  have hS : va_S A s.heap s.heap [] := va_S.rf
  generalize hQ : MQ below _ args s _ _ _ = Q
  change W p l e rm_c_like s m args below meth c s.heap [] 0 0 Q (entryFrame m args 9)
  have hl := lv_entry ([.ref g, .int (cp)]) (n := 9) (Nat.le_of_ble_eq_true rfl)
  rw [show entryFrame m args 9 = entryFrame m ([.ref g, .int (cp)] : List Value).toArray 9 from by rw [hargs], lg_entry_eq]
  generalize (lg_sl ([.ref g, .int (cp)]) ++ List.replicate (9 - (lg_sl ([.ref g, .int (cp)])).length) Slot.unset).toArray = ls at hl ⊢
  have hl : lv_has ls 9 [(0, .ref g), (1, .int (cp))] := hl
  refine lv_aload_n hx hb dX3_isLikeKey_0 rfl (lv_at hl 0 rfl) ?_
  refine va_get (D := (dC, dI)) (ci := 3) (v := .ref pt) (C := RX3) (T := TX3) (N := 4) hx hb hw inX3 hown hK hP 0 rfl rfl 2 (by decide) (hw _ mw79) (fun _ h9 => h9) rfl dX3_isLikeKey_1 ?_
  refine lv_aload_n hx hb dX3_isLikeKey_4 rfl (lv_at hl 0 rfl) ?_
  refine va_get (D := (dC, dI)) (ci := 3) (v := .ref rk) (C := RX3) (T := TX3) (N := 4) hx hb hw inX3 hown hK hP 0 rfl rfl 1 (by decide) (hw _ mw78) (fun _ h9 => h9) rfl dX3_isLikeKey_5 ?_
  have hPc := hP.sub (ws' := [(pt, .inr (0, [.ref ap, .int (nI np)])), (ap, .inl (kp, 100, .inl fp)), (rk, .inr (1, [.ref ak, .int (nI nk)])), (ak, .inl (kk, 100, .inl fk))]) [5, 6, 3, 4] rfl
  have hDc := hD.sub (ws' := [(pt, .inr (0, [.ref ap, .int (nI np)])), (ap, .inl (kp, 100, .inl fp)), (rk, .inr (1, [.ref ak, .int (nI nk)])), (ak, .inl (kk, 100, .inl fk))]) [5, 6, 3, 4] (by decide) rfl
  have hKc := hK.sub (tys' := [(kp, .int), (kk, .int)]) [2, 1] rfl
  have hFc := va_free (wc := [(pt, .inr (0, [.ref ap, .int (nI np)])), (ap, .inl (kp, 100, .inl fp)), (rk, .inr (1, [.ref ak, .int (nI nk)])), (ak, .inl (kk, 100, .inl fk))]) hD hS hA [5, 6, 3, 4] rfl
  refine va_callv (va_runV (As := [.ref rk]) (rest := []) ⟨hx, hb, hml, hown, hw⟩ (c_Pat_stars l dC dI s.heap.size pt ap kp fp np rk ak kk fk nk hk) (cwV 1 hw (gV mw184 mw185 mw186 mw18 mw187) rfl rfl rfl (by decide +kernel) ⟨Nat.le_of_ble_eq_true rfl, Nat.le_of_ble_eq_true rfl⟩) (wr.V (q0 := 0) (ci := 0) hN hKc hPc hDc rfl rfl) rfl rfl hl.1 rfl (lv_room (Nat.le_of_ble_eq_true rfl)) dX3_isLikeKey_8 ⟨Nat.le_of_ble_eq_true rfl, Nat.le_of_ble_eq_true rfl⟩) hS (fun q _ h => hFc q h) hFc (fun ur1 t H1 locs ht hvm hr1 hB hz1 hk1 hS => ?_)
  obtain ⟨w, p1⟩ := ur1
  obtain ⟨hpl, hple, hw9⟩ := hr1
  dsimp only at hpl hple hw9
  have hp1 : p1 ≤ 100 := by omega
  obtain ⟨hP1, hD1⟩ := hB
  rw [ht] at hP1
  obtain ⟨hP, hD⟩ := va_join (wr := [(g, .inr (3, [.ref rv, .ref rk, .ref pt, .ref sp])), (rv, .inr (1, [.ref av, .int (nI nv)])), (av, .inl (kv, 100, .inl fv)), (sp, .inr (2, [.ref a1, .ref a2, .int (nI 0)])), (a1, .inl (k1, 100, .inl f1)), (a2, .inl (k2, 100, .inl f2))]) (w1 := [(pt, .inr (0, [.ref ap, .int (nI p1)])), (ap, .inl (kp, 100, .inl w)), (rk, .inr (1, [.ref ak, .int (nI nk)])), (ak, .inl (kk, 100, .inl fk))]) hP hD [5, 6, 3, 4] [0, 1, 2, 7, 8, 9] rfl rfl (by decide) (by decide) hk1 hFc hP1 hD1
  generalize H1 = H at hP hS ⊢
  have hP : va_P (dC, dI) cl5 [(g, .inr (3, [.ref rv, .ref rk, .ref pt, .ref sp])), (rv, .inr (1, [.ref av, .int (nI nv)])), (av, .inl (kv, 100, .inl fv)), (rk, .inr (1, [.ref ak, .int (nI nk)])), (ak, .inl (kk, 100, .inl fk)), (pt, .inr (0, [.ref ap, .int (nI p1)])), (ap, .inl (kp, 100, .inl w)), (sp, .inr (2, [.ref a1, .ref a2, .int (nI 0)])), (a1, .inl (k1, 100, .inl f1)), (a2, .inl (k2, 100, .inl f2))] H := hP.sub [0, 1, 2, 8, 9, 6, 7, 3, 4, 5] rfl
  have hD : va_D A [(g, .inr (3, [.ref rv, .ref rk, .ref pt, .ref sp])), (rv, .inr (1, [.ref av, .int (nI nv)])), (av, .inl (kv, 100, .inl fv)), (rk, .inr (1, [.ref ak, .int (nI nk)])), (ak, .inl (kk, 100, .inl fk)), (pt, .inr (0, [.ref ap, .int (nI p1)])), (ap, .inl (kp, 100, .inl w)), (sp, .inr (2, [.ref a1, .ref a2, .int (nI 0)])), (a1, .inl (k1, 100, .inl f1)), (a2, .inl (k2, 100, .inl f2))] := hD.sub [0, 1, 2, 8, 9, 6, 7, 3, 4, 5] (by decide) rfl
  refine lv_aload_n hx hb dX3_isLikeKey_11 rfl (lv_at hl 0 rfl) ?_
  refine va_get (D := (dC, dI)) (ci := 3) (v := .ref pt) (C := RX3) (T := TX3) (N := 4) hx hb hw inX3 hown hK hP 0 rfl rfl 2 (by decide) (hw _ mw79) (fun _ h9 => h9) rfl dX3_isLikeKey_12 ?_
  refine lv_iconst (v := 0) hx hb dX3_isLikeKey_15 (by decide) ?_
  refine lv_topi (fun x2 ex2 => ?_)
  obtain rfl : x2 = nI 0 := by rw [ex2]; exact nI_0.symm
  refine vp_callSi (va_Run.run (va_runV (As := [.int (nI 0)]) (rest := []) ⟨hx, hb, hml, hown, hw⟩ (c_Pat_star l dC dI pt ap kp w p1 hp1 0 (by omega)) (cwV 1 hw (gV mw188 mw189 mw190 mw18 mw191) rfl rfl rfl (by decide +kernel) ⟨Nat.le_of_ble_eq_true rfl, Nat.le_of_ble_eq_true rfl⟩) (ro.V (q0 := 0) (ci := 0) hN (hK.sub (tys' := [(kp, .int)]) [2] rfl) (hP.sub (ws' := [(pt, .inr (0, [.ref ap, .int (nI p1)])), (ap, .inl (kp, 100, .inl w))]) [5, 6] rfl) rfl rfl) rfl rfl hl.1 rfl (lv_room (Nat.le_of_ble_eq_true rfl)) dX3_isLikeKey_16 ⟨Nat.le_of_ble_eq_true rfl, Nat.le_of_ble_eq_true rfl⟩)) (fun r3 hr3 => ?_)
  obtain rfl : r3 = nI (nst w p1 0) := hr3
  refine lv_istore_n (lv' := [(2, .int (nI (nst w p1 0))), (0, .ref g), (1, .int (cp))]) hx hb dX3_isLikeKey_19 rfl hl (by decide) rfl (fun ls hl => ?_)
  refine lv_aload_n hx hb dX3_isLikeKey_20 rfl (lv_at hl 1 rfl) ?_
  refine lv_iconst (v := 0) hx hb dX3_isLikeKey_21 (by decide) ?_
  refine lv_topi (fun x4 ex4 => ?_)
  obtain rfl : x4 = nI 0 := by rw [ex4]; exact nI_0.symm
  refine lv_iload_n hx hb dX3_isLikeKey_22 rfl (lv_at hl 0 rfl) ?_
  refine lv_iconst (v := 0) hx hb dX3_isLikeKey_23 (by decide) ?_
  refine lv_topi (fun x5 ex5 => ?_)
  obtain rfl : x5 = nI 0 := by rw [ex5]; exact nI_0.symm
  refine lv_iload_n hx hb dX3_isLikeKey_24 rfl (lv_at hl 2 rfl) ?_
  refine vp_callSi (va_Run.run (va_runV (As := [.int (nI 0), .int (nI (nst w p1 0)), .int (nI 0), .int (cp)]) (rest := []) ⟨hx, hb, hml, hown, hw⟩ (c_fits l dC dI g rv rk pt sp av ak ap a1 a2 kv kk kp k1 k2 fv fk w f1 f2 nv nk p1 0 hv hk hp1 (Nat.zero_le _) 0 (nst w p1 0) 0 cp (Nat.zero_le _) (nst_le (Nat.zero_le _)) (Nat.zero_le _)) (cwV 4 hw (gV mw168 mw170 mw8 mw16 mw171) rfl rfl rfl (by decide +kernel) ⟨Nat.le_of_ble_eq_true rfl, Nat.le_of_ble_eq_true rfl⟩) (ro.V (q0 := 0) (ci := 3) hN (hK.sub (tys' := [(kv, .int), (kk, .int), (kp, .int), (k1, .int), (k2, .int)]) [0, 1, 2, 3, 4] rfl) (hP.sub (ws' := [(g, .inr (3, [.ref rv, .ref rk, .ref pt, .ref sp])), (rv, .inr (1, [.ref av, .int (nI nv)])), (av, .inl (kv, 100, .inl fv)), (rk, .inr (1, [.ref ak, .int (nI nk)])), (ak, .inl (kk, 100, .inl fk)), (pt, .inr (0, [.ref ap, .int (nI p1)])), (ap, .inl (kp, 100, .inl w)), (sp, .inr (2, [.ref a1, .ref a2, .int (nI 0)])), (a1, .inl (k1, 100, .inl f1)), (a2, .inl (k2, 100, .inl f2))]) [0, 1, 2, 3, 4, 5, 6, 7, 8, 9] rfl) rfl rfl) rfl rfl hl.1 rfl (lv_room (Nat.le_of_ble_eq_true rfl)) dX3_isLikeKey_25 ⟨Nat.le_of_ble_eq_true rfl, Nat.le_of_ble_eq_true rfl⟩)) (fun r6 hr6 => ?_)
  subst hr6
  refine lv_if_ne (tgt := 33) hx hb dX3_isLikeKey_28 (by decide) (fun c28_6 => ?_) (fun c28_6 => ?_)
  · skip
    have z0 := ifb c28_6
    have hE : nst w p1 0 ≤ p1 := nst_le (Nat.zero_le _)
    have hEv := fitB_len z0
    refine lv_iload_n hx hb dX3_isLikeKey_33 rfl (lv_at hl 0 rfl) ?_
    refine lv_istore_n (lv' := [(3, .int (nI (nst w p1 0))), (2, .int (nI (nst w p1 0))), (0, .ref g), (1, .int (cp))]) hx hb dX3_isLikeKey_34 rfl hl (by decide) rfl (fun ls hl => ?_)
    refine lv_iconst (v := 0) hx hb dX3_isLikeKey_35 (by decide) ?_
    refine lv_topi (fun x8 ex8 => ?_)
    obtain rfl : x8 = nI 0 := by rw [ex8]; exact nI_0.symm
    refine lv_istore (lv' := [(4, .int (nI 0)), (3, .int (nI (nst w p1 0))), (2, .int (nI (nst w p1 0))), (0, .ref g), (1, .int (cp))]) hx hb dX3_isLikeKey_36 hl (by decide) rfl (fun ls hl => ?_)
    have loop38 : ∀ (nn38 : Nat) (e1 p0 n2 : Nat) (s1 s2 : Nat → Int32) (acc : List (Nat × Nat)) (he : e1 ≤ p1) (hst : e1 < p1 → w e1 = 257) (hpv : p0 ≤ nv) (hn2 : n2 ≤ e1) (i1 : mtI w fv p1 nv cp 0 0 ↔ mtI w fv p1 nv cp e1 p0) (i2 : mtI w fv p1 nv cp e1 p0 → ∀ L, spI w fv p1 nv cp e1 p0 L → spI w fv p1 nv cp 0 0 (acc ++ L)) (i3 : spIs s1 s2 n2 acc) (_ : p1 - e1 < nn38) (H : Heap) (locs : List Loc) (_ : va_P (dC, dI) cl5 [(g, .inr (3, [.ref rv, .ref rk, .ref pt, .ref sp])), (rv, .inr (1, [.ref av, .int (nI nv)])), (av, .inl (kv, 100, .inl fv)), (rk, .inr (1, [.ref ak, .int (nI nk)])), (ak, .inl (kk, 100, .inl fk)), (pt, .inr (0, [.ref ap, .int (nI p1)])), (ap, .inl (kp, 100, .inl w)), (sp, .inr (2, [.ref a1, .ref a2, .int (nI n2)])), (a1, .inl (k1, 100, .inl s1)), (a2, .inl (k2, 100, .inl s2))] H) (_ : va_D A [(g, .inr (3, [.ref rv, .ref rk, .ref pt, .ref sp])), (rv, .inr (1, [.ref av, .int (nI nv)])), (av, .inl (kv, 100, .inl fv)), (rk, .inr (1, [.ref ak, .int (nI nk)])), (ak, .inl (kk, 100, .inl fk)), (pt, .inr (0, [.ref ap, .int (nI p1)])), (ap, .inl (kp, 100, .inl w)), (sp, .inr (2, [.ref a1, .ref a2, .int (nI n2)])), (a1, .inl (k1, 100, .inl s1)), (a2, .inl (k2, 100, .inl s2))]) (_ : va_S A s.heap H locs) (ls : Array Slot) (_ : lv_has ls 9 [(0, .ref g), (1, .int (cp)), (2, .int (nI e1)), (3, .int (nI p0)), (4, .int (nI n2))]), W p l e rm_c_like s m args below meth c H locs 0 0 Q (F0 m 38 ls []) := by
      intro nn38
      induction nn38 with
      | zero => intro e1 p0 n2 s1 s2 acc he hst hpv hn2 i1 i2 i3 hm38 H locs hP hD hS ls hl; exact absurd hm38 (Nat.not_lt_zero _)
      | succ nn38 ih38 =>
        intro e1 p0 n2 s1 s2 acc he hst hpv hn2 i1 i2 i3 hm38 H locs hP hD hS ls hl
        refine lv_iload hx hb dX3_isLikeKey_38 (lv_at hl 4 rfl) ?_
        refine lv_bipush (v := 100) hx hb dX3_isLikeKey_40 (by decide) ?_
        refine lv_icmp_ge (tgt := 162) hx hb dX3_isLikeKey_42 (by decide) (fun c42_8 => ?_) (fun c42_8 => ?_)
        · skip
          rw [ti_le, nI_toInt (by omega), tc_100] at c42_8
          have e8 : e1 = p1 := by omega
          refine lv_iload_n hx hb dX3_isLikeKey_162 rfl (lv_at hl 3 rfl) ?_
          refine lv_aload_n hx hb dX3_isLikeKey_163 rfl (lv_at hl 0 rfl) ?_
          refine va_get (D := (dC, dI)) (ci := 3) (v := .ref rv) (C := RX3) (T := TX3) (N := 4) hx hb hw inX3 hown hK hP 0 rfl rfl 0 (by decide) (hw _ mw77) (fun _ h9 => h9) rfl dX3_isLikeKey_164 ?_
          refine va_getN (D := (dC, dI)) (ci := 1) (v := .int (nI nv)) (C := RX1) (T := TX1) (N := 2) hx hb hw inX1 hown hK hP 1 rfl rfl 1 (by decide) (va_Nw.use rfl hN.2.2.1) (fun _ h9 => h9) rfl dX3_isLikeKey_167 ?_
          refine lv_icmp_ne (tgt := 177) hx hb dX3_isLikeKey_170 (by decide) (fun c170_9 => ?_) (fun c170_9 => ?_)
          · skip
            have z8 : ¬ p0 = nv := fun q => c170_9 (by rw [q])
            refine lv_iconst (v := 0) hx hb dX3_isLikeKey_177 (by decide) ?_
            subst hQ
            exact W.zret (v := 0) hx hb hr (by decide) (fun t ht hW => ⟨⟨_, (w, p1, s1, s2, n2), rfl, ⟨hp1, by show n2 ≤ 100; omega, Or.inr ⟨rfl, by first | exact lk_fail hpl hw9 e8 z8 i1 | exact lk_no hpl hw9 (fun q => gr_none hlt (hst hlt) hv hpv (by first | exact z9 | exact Decidable.not_not.mp z9) (i1.mp q))⟩⟩, by rw [ht]; exact hP, hD⟩, hS.F ht⟩) hS.2.2 dX3_isLikeKey_178
          · skip
            have z8 : p0 = nv := (nI_eq (by omega) (by omega)).mp (by first | exact c170_9 | exact Decidable.not_not.mp c170_9)
            refine lv_iconst (v := 1) hx hb dX3_isLikeKey_173 (by decide) ?_
            refine lv_goto (tgt := 178) hx hb dX3_isLikeKey_174 (by decide) ?_
            subst hQ
            exact W.zret (v := 1) hx hb hr (by decide) (fun t ht hW => ⟨⟨_, (w, p1, s1, s2, n2), rfl, ⟨hp1, by show n2 ≤ 100; omega, Or.inl ⟨rfl, acc, lk_end hpl hw9 e8 z8 i1 i2, i3⟩⟩, by rw [ht]; exact hP, hD⟩, hS.F ht⟩) hS.2.2 dX3_isLikeKey_178
        · skip
          rw [ti_le, nI_toInt (by omega), tc_100] at c42_8
          refine lv_iload_n hx hb dX3_isLikeKey_45 rfl (lv_at hl 2 rfl) ?_
          refine lv_aload_n hx hb dX3_isLikeKey_46 rfl (lv_at hl 0 rfl) ?_
          refine va_get (D := (dC, dI)) (ci := 3) (v := .ref pt) (C := RX3) (T := TX3) (N := 4) hx hb hw inX3 hown hK hP 0 rfl rfl 2 (by decide) (hw _ mw79) (fun _ h9 => h9) rfl dX3_isLikeKey_47 ?_
          refine va_getN (D := (dC, dI)) (ci := 0) (v := .int (nI p1)) (C := RX0) (T := TX0) (N := 2) hx hb hw inX0 hown hK hP 5 rfl rfl 1 (by decide) (va_Nw.use rfl hN.2.2.2.2.1) (fun _ h9 => h9) rfl dX3_isLikeKey_50 ?_
          refine lv_icmp_ge (tgt := 162) hx hb dX3_isLikeKey_53 (by decide) (fun c53_10 => ?_) (fun c53_10 => ?_)
          · skip
            rw [ti_le, nI_toInt (by omega), nI_toInt (by omega)] at c53_10
            have e8 : e1 = p1 := by omega
            refine lv_iload_n hx hb dX3_isLikeKey_162 rfl (lv_at hl 3 rfl) ?_
            refine lv_aload_n hx hb dX3_isLikeKey_163 rfl (lv_at hl 0 rfl) ?_
            refine va_get (D := (dC, dI)) (ci := 3) (v := .ref rv) (C := RX3) (T := TX3) (N := 4) hx hb hw inX3 hown hK hP 0 rfl rfl 0 (by decide) (hw _ mw77) (fun _ h9 => h9) rfl dX3_isLikeKey_164 ?_
            refine va_getN (D := (dC, dI)) (ci := 1) (v := .int (nI nv)) (C := RX1) (T := TX1) (N := 2) hx hb hw inX1 hown hK hP 1 rfl rfl 1 (by decide) (va_Nw.use rfl hN.2.2.1) (fun _ h9 => h9) rfl dX3_isLikeKey_167 ?_
            refine lv_icmp_ne (tgt := 177) hx hb dX3_isLikeKey_170 (by decide) (fun c170_11 => ?_) (fun c170_11 => ?_)
            · skip
              have z8 : ¬ p0 = nv := fun q => c170_11 (by rw [q])
              refine lv_iconst (v := 0) hx hb dX3_isLikeKey_177 (by decide) ?_
              subst hQ
              exact W.zret (v := 0) hx hb hr (by decide) (fun t ht hW => ⟨⟨_, (w, p1, s1, s2, n2), rfl, ⟨hp1, by show n2 ≤ 100; omega, Or.inr ⟨rfl, by first | exact lk_fail hpl hw9 e8 z8 i1 | exact lk_no hpl hw9 (fun q => gr_none hlt (hst hlt) hv hpv (by first | exact z9 | exact Decidable.not_not.mp z9) (i1.mp q))⟩⟩, by rw [ht]; exact hP, hD⟩, hS.F ht⟩) hS.2.2 dX3_isLikeKey_178
            · skip
              have z8 : p0 = nv := (nI_eq (by omega) (by omega)).mp (by first | exact c170_11 | exact Decidable.not_not.mp c170_11)
              refine lv_iconst (v := 1) hx hb dX3_isLikeKey_173 (by decide) ?_
              refine lv_goto (tgt := 178) hx hb dX3_isLikeKey_174 (by decide) ?_
              subst hQ
              exact W.zret (v := 1) hx hb hr (by decide) (fun t ht hW => ⟨⟨_, (w, p1, s1, s2, n2), rfl, ⟨hp1, by show n2 ≤ 100; omega, Or.inl ⟨rfl, acc, lk_end hpl hw9 e8 z8 i1 i2, i3⟩⟩, by rw [ht]; exact hP, hD⟩, hS.F ht⟩) hS.2.2 dX3_isLikeKey_178
          · skip
            rw [ti_le, nI_toInt (by omega), nI_toInt (by omega)] at c53_10
            have hlt : e1 < p1 := by omega
            have hE2 : nst w p1 (e1 + 1) ≤ p1 := nst_le (by omega)
            have hE3 : e1 + 1 ≤ nst w p1 (e1 + 1) := nst_ge
            have hear : ear p1 nv p0 (e1 + 1) (nst w p1 (e1 + 1)) ≤ 100 := by unfold ear; split <;> omega
            refine lv_iload_n hx hb dX3_isLikeKey_56 rfl (lv_at hl 2 rfl) ?_
            refine lv_iconst (v := 1) hx hb dX3_isLikeKey_57 (by decide) ?_
            refine lv_iadd hx hb dX3_isLikeKey_58 ?_
            refine lv_topi (fun x13 ex13 => ?_)
            obtain rfl : x13 = nI (e1 + 1) := by rw [ex13]; exact nI_1 e1
            refine lv_istore (lv' := [(5, .int (nI (e1 + 1))), (0, .ref g), (1, .int (cp)), (2, .int (nI e1)), (3, .int (nI p0)), (4, .int (nI n2))]) hx hb dX3_isLikeKey_59 hl (by decide) rfl (fun ls hl => ?_)
            refine lv_aload_n hx hb dX3_isLikeKey_61 rfl (lv_at hl 1 rfl) ?_
            refine va_get (D := (dC, dI)) (ci := 3) (v := .ref pt) (C := RX3) (T := TX3) (N := 4) hx hb hw inX3 hown hK hP 0 rfl rfl 2 (by decide) (hw _ mw79) (fun _ h9 => h9) rfl dX3_isLikeKey_62 ?_
            refine lv_iload hx hb dX3_isLikeKey_65 (lv_at hl 0 rfl) ?_
            refine vp_callSi (va_Run.run (va_runV (As := [.int (nI (e1 + 1))]) (rest := []) ⟨hx, hb, hml, hown, hw⟩ (c_Pat_star l dC dI pt ap kp w p1 hp1 (e1 + 1) (by omega)) (cwV 1 hw (gV mw188 mw189 mw190 mw18 mw191) rfl rfl rfl (by decide +kernel) ⟨Nat.le_of_ble_eq_true rfl, Nat.le_of_ble_eq_true rfl⟩) (ro.V (q0 := 0) (ci := 0) hN (hK.sub (tys' := [(kp, .int)]) [2] rfl) (hP.sub (ws' := [(pt, .inr (0, [.ref ap, .int (nI p1)])), (ap, .inl (kp, 100, .inl w))]) [5, 6] rfl) rfl rfl) rfl rfl hl.1 rfl (lv_room (Nat.le_of_ble_eq_true rfl)) dX3_isLikeKey_67 ⟨Nat.le_of_ble_eq_true rfl, Nat.le_of_ble_eq_true rfl⟩)) (fun r14 hr14 => ?_)
            obtain rfl : r14 = nI (nst w p1 (e1 + 1)) := hr14
            refine lv_istore_n (lv' := [(2, .int (nI (nst w p1 (e1 + 1)))), (5, .int (nI (e1 + 1))), (0, .ref g), (1, .int (cp)), (3, .int (nI p0)), (4, .int (nI n2))]) hx hb dX3_isLikeKey_70 rfl hl (by decide) rfl (fun ls hl => ?_)
            refine lv_iload_n hx hb dX3_isLikeKey_71 rfl (lv_at hl 0 rfl) ?_
            refine lv_aload_n hx hb dX3_isLikeKey_72 rfl (lv_at hl 2 rfl) ?_
            refine va_get (D := (dC, dI)) (ci := 3) (v := .ref pt) (C := RX3) (T := TX3) (N := 4) hx hb hw inX3 hown hK hP 0 rfl rfl 2 (by decide) (hw _ mw79) (fun _ h9 => h9) rfl dX3_isLikeKey_73 ?_
            refine va_getN (D := (dC, dI)) (ci := 0) (v := .int (nI p1)) (C := RX0) (T := TX0) (N := 2) hx hb hw inX0 hown hK hP 5 rfl rfl 1 (by decide) (va_Nw.use rfl hN.2.2.2.2.1) (fun _ h9 => h9) rfl dX3_isLikeKey_76 ?_
            refine lv_icmp_ne (tgt := 86) hx hb dX3_isLikeKey_79 (by decide) (fun c79_14 => ?_) (fun c79_14 => ?_)
            · skip
              have zl : ¬ nst w p1 (e1 + 1) = p1 := fun q => c79_14 (by rw [q])
              refine lv_iconst (v := 0) hx hb dX3_isLikeKey_86 (by decide) ?_
              refine lv_istore (lv' := [(6, .int (0)), (2, .int (nI (nst w p1 (e1 + 1)))), (5, .int (nI (e1 + 1))), (0, .ref g), (1, .int (cp)), (3, .int (nI p0)), (4, .int (nI n2))]) hx hb dX3_isLikeKey_87 hl (by decide) rfl (fun ls hl => ?_)
              refine lv_iload hx hb dX3_isLikeKey_89 (lv_at hl 0 rfl) ?_
              refine lv_if_eq (tgt := 113) hx hb dX3_isLikeKey_91 (by decide) (fun c91_15 => ?_) (fun c91_15 => ?_)
              · skip
                refine lv_iload_n hx hb dX3_isLikeKey_113 rfl (lv_at hl 5 rfl) ?_
                refine lv_topi (fun x17 ex17 => ?_)
                obtain rfl : x17 = nI (ear p1 nv p0 (e1 + 1) (nst w p1 (e1 + 1))) := by rw [ex17]; unfold ear; rw [if_neg zl]
                refine lv_istore (lv' := [(7, .int (nI (ear p1 nv p0 (e1 + 1) (nst w p1 (e1 + 1))))), (6, .int (0)), (2, .int (nI (nst w p1 (e1 + 1)))), (5, .int (nI (e1 + 1))), (0, .ref g), (1, .int (cp)), (3, .int (nI p0)), (4, .int (nI n2))]) hx hb dX3_isLikeKey_114 hl (by decide) rfl (fun ls hl => ?_)
                refine lv_aload_n hx hb dX3_isLikeKey_116 rfl (lv_at hl 4 rfl) ?_
                refine lv_iload hx hb dX3_isLikeKey_117 (lv_at hl 3 rfl) ?_
                refine lv_iload_n hx hb dX3_isLikeKey_119 rfl (lv_at hl 2 rfl) ?_
                refine lv_iload hx hb dX3_isLikeKey_120 (lv_at hl 0 rfl) ?_
                refine lv_iload_n hx hb dX3_isLikeKey_122 rfl (lv_at hl 5 rfl) ?_
                refine vp_callSi (va_Run.run (va_runV (As := [.int (nI (e1 + 1)), .int (nI (nst w p1 (e1 + 1))), .int (nI (ear p1 nv p0 (e1 + 1) (nst w p1 (e1 + 1)))), .int (cp)]) (rest := []) ⟨hx, hb, hml, hown, hw⟩ (c_first l dC dI g rv rk pt sp av ak ap a1 a2 kv kk kp k1 k2 fv fk w s1 s2 nv nk p1 n2 hv hk hp1 (by omega) (e1 + 1) (nst w p1 (e1 + 1)) (ear p1 nv p0 (e1 + 1) (nst w p1 (e1 + 1))) cp nst_ge (nst_le (by omega)) hear) (cwV 4 hw (gV mw164 mw166 mw7 mw16 mw167) rfl rfl rfl (by decide +kernel) ⟨Nat.le_of_ble_eq_true rfl, Nat.le_of_ble_eq_true rfl⟩) (ro.V (q0 := 0) (ci := 3) hN (hK.sub (tys' := [(kv, .int), (kk, .int), (kp, .int), (k1, .int), (k2, .int)]) [0, 1, 2, 3, 4] rfl) (hP.sub (ws' := [(g, .inr (3, [.ref rv, .ref rk, .ref pt, .ref sp])), (rv, .inr (1, [.ref av, .int (nI nv)])), (av, .inl (kv, 100, .inl fv)), (rk, .inr (1, [.ref ak, .int (nI nk)])), (ak, .inl (kk, 100, .inl fk)), (pt, .inr (0, [.ref ap, .int (nI p1)])), (ap, .inl (kp, 100, .inl w)), (sp, .inr (2, [.ref a1, .ref a2, .int (nI n2)])), (a1, .inl (k1, 100, .inl s1)), (a2, .inl (k2, 100, .inl s2))]) [0, 1, 2, 3, 4, 5, 6, 7, 8, 9] rfl) rfl rfl) rfl rfl hl.1 rfl (lv_room (Nat.le_of_ble_eq_true rfl)) dX3_isLikeKey_123 ⟨Nat.le_of_ble_eq_true rfl, Nat.le_of_ble_eq_true rfl⟩)) (fun r18 hr18 => ?_)
                subst hr18
                refine lv_istore (lv' := [(8, .int (fpF w fv nv cp (e1 + 1) (nst w p1 (e1 + 1)) (ear p1 nv p0 (e1 + 1) (nst w p1 (e1 + 1))))), (7, .int (nI (ear p1 nv p0 (e1 + 1) (nst w p1 (e1 + 1))))), (6, .int (0)), (2, .int (nI (nst w p1 (e1 + 1)))), (5, .int (nI (e1 + 1))), (0, .ref g), (1, .int (cp)), (3, .int (nI p0)), (4, .int (nI n2))]) hx hb dX3_isLikeKey_126 hl (by decide) rfl (fun ls hl => ?_)
                refine lv_iload hx hb dX3_isLikeKey_128 (lv_at hl 0 rfl) ?_
                refine lv_iconst (v := -1) hx hb dX3_isLikeKey_130 (by decide) ?_
                refine lv_icmp_ne (tgt := 136) hx hb dX3_isLikeKey_131 (by decide) (fun c131_18 => ?_) (fun c131_18 => ?_)
                · skip
                  obtain ⟨k0, ek0, g1, g2, g3, g4⟩ := fp_some c131_18
                  rw [ek0] at hl
                  obtain ⟨g5, g6, g7⟩ := gr_some hlt (hst hlt) g1 g2 g3 g4
                  refine lv_aload_n hx hb dX3_isLikeKey_136 rfl (lv_at hl 5 rfl) ?_
                  refine va_get (D := (dC, dI)) (ci := 3) (v := .ref sp) (C := RX3) (T := TX3) (N := 4) hx hb hw inX3 hown hK hP 0 rfl rfl 3 (by decide) (hw _ mw80) (fun _ h9 => h9) rfl dX3_isLikeKey_137 ?_
                  refine lv_iload_n hx hb dX3_isLikeKey_140 rfl (lv_at hl 7 rfl) ?_
                  refine lv_iload hx hb dX3_isLikeKey_141 (lv_at hl 0 rfl) ?_
                  refine lv_iload_n hx hb dX3_isLikeKey_143 rfl (lv_at hl 7 rfl) ?_
                  refine lv_isub hx hb dX3_isLikeKey_144 ?_
                  refine lv_topi (fun x20 ex20 => ?_)
                  obtain rfl : x20 = nI (k0 - p0) := by rw [ex20]; exact pk_sub g5
                  have hPc := hP.sub (ws' := [(sp, .inr (2, [.ref a1, .ref a2, .int (nI n2)])), (a1, .inl (k1, 100, .inl s1)), (a2, .inl (k2, 100, .inl s2))]) [7, 8, 9] rfl
                  have hDc := hD.sub (ws' := [(sp, .inr (2, [.ref a1, .ref a2, .int (nI n2)])), (a1, .inl (k1, 100, .inl s1)), (a2, .inl (k2, 100, .inl s2))]) [7, 8, 9] (by decide) rfl
                  have hKc := hK.sub (tys' := [(k1, .int), (k2, .int)]) [3, 4] rfl
                  have hFc := va_free (wc := [(sp, .inr (2, [.ref a1, .ref a2, .int (nI n2)])), (a1, .inl (k1, 100, .inl s1)), (a2, .inl (k2, 100, .inl s2))]) hD hS hA [7, 8, 9] rfl
                  refine va_callv (va_runV (As := [.int (nI p0), .int (nI (k0 - p0))]) (rest := []) ⟨hx, hb, hml, hown, hw⟩ (c_Sp_append l dC dI H.size sp a1 a2 k1 k2 s1 s2 n2 (by omega) (nI p0) (nI (k0 - p0))) (cwV 2 hw (gV mw176 mw177 mw178 mw19 mw179) rfl rfl rfl (by decide +kernel) ⟨Nat.le_of_ble_eq_true rfl, Nat.le_of_ble_eq_true rfl⟩) (wr.V (q0 := 0) (ci := 2) hN hKc hPc hDc rfl rfl) rfl rfl hl.1 rfl (lv_room (Nat.le_of_ble_eq_true rfl)) dX3_isLikeKey_145 ⟨Nat.le_of_ble_eq_true rfl, Nat.le_of_ble_eq_true rfl⟩) hS (fun q _ h => hFc q h) hFc (fun ur21 t H1 locs ht hvm hr21 hB hz1 hk1 hS => ?_)
                  subst hr21
                  obtain ⟨hP1, hD1⟩ := hB
                  rw [ht] at hP1
                  obtain ⟨hP, hD⟩ := va_join (wr := [(g, .inr (3, [.ref rv, .ref rk, .ref pt, .ref sp])), (rv, .inr (1, [.ref av, .int (nI nv)])), (av, .inl (kv, 100, .inl fv)), (rk, .inr (1, [.ref ak, .int (nI nk)])), (ak, .inl (kk, 100, .inl fk)), (pt, .inr (0, [.ref ap, .int (nI p1)])), (ap, .inl (kp, 100, .inl w))]) (w1 := [(sp, .inr (2, [.ref a1, .ref a2, .int (nI (n2 + 1))])), (a1, .inl (k1, 100, .inl (upd s1 n2 (nI p0)))), (a2, .inl (k2, 100, .inl (upd s2 n2 (nI (k0 - p0)))))]) hP hD [7, 8, 9] [0, 1, 2, 3, 4, 5, 6] rfl rfl (by decide) (by decide) hk1 hFc hP1 hD1
                  generalize H1 = H at hP hS ⊢
                  have hP : va_P (dC, dI) cl5 [(g, .inr (3, [.ref rv, .ref rk, .ref pt, .ref sp])), (rv, .inr (1, [.ref av, .int (nI nv)])), (av, .inl (kv, 100, .inl fv)), (rk, .inr (1, [.ref ak, .int (nI nk)])), (ak, .inl (kk, 100, .inl fk)), (pt, .inr (0, [.ref ap, .int (nI p1)])), (ap, .inl (kp, 100, .inl w)), (sp, .inr (2, [.ref a1, .ref a2, .int (nI (n2 + 1))])), (a1, .inl (k1, 100, .inl (upd s1 n2 (nI p0)))), (a2, .inl (k2, 100, .inl (upd s2 n2 (nI (k0 - p0)))))] H := hP.sub [0, 1, 2, 3, 4, 5, 6, 7, 8, 9] rfl
                  have hD : va_D A [(g, .inr (3, [.ref rv, .ref rk, .ref pt, .ref sp])), (rv, .inr (1, [.ref av, .int (nI nv)])), (av, .inl (kv, 100, .inl fv)), (rk, .inr (1, [.ref ak, .int (nI nk)])), (ak, .inl (kk, 100, .inl fk)), (pt, .inr (0, [.ref ap, .int (nI p1)])), (ap, .inl (kp, 100, .inl w)), (sp, .inr (2, [.ref a1, .ref a2, .int (nI (n2 + 1))])), (a1, .inl (k1, 100, .inl (upd s1 n2 (nI p0)))), (a2, .inl (k2, 100, .inl (upd s2 n2 (nI (k0 - p0)))))] := hD.sub [0, 1, 2, 3, 4, 5, 6, 7, 8, 9] (by decide) rfl
                  refine lv_iload hx hb dX3_isLikeKey_148 (lv_at hl 0 rfl) ?_
                  refine lv_iload_n hx hb dX3_isLikeKey_150 rfl (lv_at hl 3 rfl) ?_
                  refine lv_iload hx hb dX3_isLikeKey_151 (lv_at hl 4 rfl) ?_
                  refine lv_isub hx hb dX3_isLikeKey_153 ?_
                  refine lv_topi (fun x22 ex22 => ?_)
                  obtain rfl : x22 = nI (nst w p1 (e1 + 1) - (e1 + 1)) := by rw [ex22]; exact pk_sub nst_ge
                  refine lv_iadd hx hb dX3_isLikeKey_154 ?_
                  refine lv_topi (fun x23 ex23 => ?_)
                  obtain rfl : x23 = nI (k0 + (nst w p1 (e1 + 1) - (e1 + 1))) := by rw [ex23]; exact nI_add _ _
                  refine lv_istore_n (lv' := [(3, .int (nI (k0 + (nst w p1 (e1 + 1) - (e1 + 1))))), (8, .int (nI k0)), (7, .int (nI (ear p1 nv p0 (e1 + 1) (nst w p1 (e1 + 1))))), (6, .int (0)), (2, .int (nI (nst w p1 (e1 + 1)))), (5, .int (nI (e1 + 1))), (0, .ref g), (1, .int (cp)), (4, .int (nI n2))]) hx hb dX3_isLikeKey_155 rfl hl (by decide) rfl (fun ls hl => ?_)
                  refine lv_iinc (v := nI (n2 + 1)) (lv' := [(4, .int (nI (n2 + 1))), (3, .int (nI (k0 + (nst w p1 (e1 + 1) - (e1 + 1))))), (8, .int (nI k0)), (7, .int (nI (ear p1 nv p0 (e1 + 1) (nst w p1 (e1 + 1))))), (6, .int (0)), (2, .int (nI (nst w p1 (e1 + 1)))), (5, .int (nI (e1 + 1))), (0, .ref g), (1, .int (cp))]) hx hb dX3_isLikeKey_156 hl (k := 8) rfl (nI_inc n2) (by decide) rfl (fun ls hl => ?_)
                  refine lv_goto (tgt := 38) hx hb dX3_isLikeKey_159 (by decide) ?_
                  exact ih38 (nst w p1 (e1 + 1)) (k0 + (nst w p1 (e1 + 1) - (e1 + 1))) (n2 + 1) _ _ (acc ++ [(p0, k0 - p0)]) hE2 (fun h => nst_at (by omega) h) g2 (by omega) (i1.trans g6) (fun hm L hL => by rw [List.append_assoc]; exact i2 (g6.mpr hm) _ (g7 hm L hL)) (spIs_add i3) (by omega) H locs hP hD hS ls (lv_sub hl [7, 8, 5, 1, 0] rfl)
                · skip
                  have z9 := c131_18
                  refine lv_iconst (v := 0) hx hb dX3_isLikeKey_134 (by decide) ?_
                  subst hQ
                  exact W.zret (v := 0) hx hb hr (by decide) (fun t ht hW => ⟨⟨_, (w, p1, s1, s2, n2), rfl, ⟨hp1, by show n2 ≤ 100; omega, Or.inr ⟨rfl, by first | exact lk_fail hpl hw9 e8 z8 i1 | exact lk_no hpl hw9 (fun q => gr_none hlt (hst hlt) hv hpv (by first | exact z9 | exact Decidable.not_not.mp z9) (i1.mp q))⟩⟩, by rw [ht]; exact hP, hD⟩, hS.F ht⟩) hS.2.2 dX3_isLikeKey_135
              · skip
                exact absurd rfl c91_15
            · skip
              have zl : nst w p1 (e1 + 1) = p1 := (nI_eq (by omega) (by omega)).mp (by first | exact c79_14 | exact Decidable.not_not.mp c79_14)
              refine lv_iconst (v := 1) hx hb dX3_isLikeKey_82 (by decide) ?_
              refine lv_goto (tgt := 87) hx hb dX3_isLikeKey_83 (by decide) ?_
              refine lv_istore (lv' := [(6, .int (1)), (2, .int (nI (nst w p1 (e1 + 1)))), (5, .int (nI (e1 + 1))), (0, .ref g), (1, .int (cp)), (3, .int (nI p0)), (4, .int (nI n2))]) hx hb dX3_isLikeKey_87 hl (by decide) rfl (fun ls hl => ?_)
              refine lv_iload hx hb dX3_isLikeKey_89 (lv_at hl 0 rfl) ?_
              refine lv_if_eq (tgt := 113) hx hb dX3_isLikeKey_91 (by decide) (fun c91_23 => ?_) (fun c91_23 => ?_)
              · skip
                exact absurd c91_23 (by decide)
              · skip
                refine lv_iload_n hx hb dX3_isLikeKey_94 rfl (lv_at hl 5 rfl) ?_
                refine lv_aload_n hx hb dX3_isLikeKey_95 rfl (lv_at hl 3 rfl) ?_
                refine va_get (D := (dC, dI)) (ci := 3) (v := .ref rv) (C := RX3) (T := TX3) (N := 4) hx hb hw inX3 hown hK hP 0 rfl rfl 0 (by decide) (hw _ mw77) (fun _ h9 => h9) rfl dX3_isLikeKey_96 ?_
                refine va_getN (D := (dC, dI)) (ci := 1) (v := .int (nI nv)) (C := RX1) (T := TX1) (N := 2) hx hb hw inX1 hown hK hP 1 rfl rfl 1 (by decide) (va_Nw.use rfl hN.2.2.1) (fun _ h9 => h9) rfl dX3_isLikeKey_99 ?_
                refine lv_iload_n hx hb dX3_isLikeKey_102 rfl (lv_at hl 1 rfl) ?_
                refine lv_iload hx hb dX3_isLikeKey_103 (lv_at hl 2 rfl) ?_
                refine lv_isub hx hb dX3_isLikeKey_105 ?_
                refine lv_isub hx hb dX3_isLikeKey_106 ?_
                refine va_mmax hx hb (by rw [hml]; exact hl.1.symm) hown (hw _ mw193) (hw _ mw194) (hw _ mw21) (hw _ mw195) (Nat.le_of_ble_eq_true rfl) (Nat.le_of_ble_eq_true rfl) (Nat.le_of_ble_eq_true rfl) (Nat.le_of_ble_eq_true rfl) dX3_isLikeKey_107 ?_
                refine lv_topi (fun x25 ex25 => ?_)
                obtain rfl : x25 = nI (ear p1 nv p0 (e1 + 1) (nst w p1 (e1 + 1))) := by rw [ex25]; exact ear_last hp1 hv (by omega) nst_ge zl
                refine lv_goto (tgt := 114) hx hb dX3_isLikeKey_110 (by decide) ?_
                refine lv_istore (lv' := [(7, .int (nI (ear p1 nv p0 (e1 + 1) (nst w p1 (e1 + 1))))), (6, .int (1)), (2, .int (nI (nst w p1 (e1 + 1)))), (5, .int (nI (e1 + 1))), (0, .ref g), (1, .int (cp)), (3, .int (nI p0)), (4, .int (nI n2))]) hx hb dX3_isLikeKey_114 hl (by decide) rfl (fun ls hl => ?_)
                refine lv_aload_n hx hb dX3_isLikeKey_116 rfl (lv_at hl 4 rfl) ?_
                refine lv_iload hx hb dX3_isLikeKey_117 (lv_at hl 3 rfl) ?_
                refine lv_iload_n hx hb dX3_isLikeKey_119 rfl (lv_at hl 2 rfl) ?_
                refine lv_iload hx hb dX3_isLikeKey_120 (lv_at hl 0 rfl) ?_
                refine lv_iload_n hx hb dX3_isLikeKey_122 rfl (lv_at hl 5 rfl) ?_
                refine vp_callSi (va_Run.run (va_runV (As := [.int (nI (e1 + 1)), .int (nI (nst w p1 (e1 + 1))), .int (nI (ear p1 nv p0 (e1 + 1) (nst w p1 (e1 + 1)))), .int (cp)]) (rest := []) ⟨hx, hb, hml, hown, hw⟩ (c_first l dC dI g rv rk pt sp av ak ap a1 a2 kv kk kp k1 k2 fv fk w s1 s2 nv nk p1 n2 hv hk hp1 (by omega) (e1 + 1) (nst w p1 (e1 + 1)) (ear p1 nv p0 (e1 + 1) (nst w p1 (e1 + 1))) cp nst_ge (nst_le (by omega)) hear) (cwV 4 hw (gV mw164 mw166 mw7 mw16 mw167) rfl rfl rfl (by decide +kernel) ⟨Nat.le_of_ble_eq_true rfl, Nat.le_of_ble_eq_true rfl⟩) (ro.V (q0 := 0) (ci := 3) hN (hK.sub (tys' := [(kv, .int), (kk, .int), (kp, .int), (k1, .int), (k2, .int)]) [0, 1, 2, 3, 4] rfl) (hP.sub (ws' := [(g, .inr (3, [.ref rv, .ref rk, .ref pt, .ref sp])), (rv, .inr (1, [.ref av, .int (nI nv)])), (av, .inl (kv, 100, .inl fv)), (rk, .inr (1, [.ref ak, .int (nI nk)])), (ak, .inl (kk, 100, .inl fk)), (pt, .inr (0, [.ref ap, .int (nI p1)])), (ap, .inl (kp, 100, .inl w)), (sp, .inr (2, [.ref a1, .ref a2, .int (nI n2)])), (a1, .inl (k1, 100, .inl s1)), (a2, .inl (k2, 100, .inl s2))]) [0, 1, 2, 3, 4, 5, 6, 7, 8, 9] rfl) rfl rfl) rfl rfl hl.1 rfl (lv_room (Nat.le_of_ble_eq_true rfl)) dX3_isLikeKey_123 ⟨Nat.le_of_ble_eq_true rfl, Nat.le_of_ble_eq_true rfl⟩)) (fun r26 hr26 => ?_)
                subst hr26
                refine lv_istore (lv' := [(8, .int (fpF w fv nv cp (e1 + 1) (nst w p1 (e1 + 1)) (ear p1 nv p0 (e1 + 1) (nst w p1 (e1 + 1))))), (7, .int (nI (ear p1 nv p0 (e1 + 1) (nst w p1 (e1 + 1))))), (6, .int (1)), (2, .int (nI (nst w p1 (e1 + 1)))), (5, .int (nI (e1 + 1))), (0, .ref g), (1, .int (cp)), (3, .int (nI p0)), (4, .int (nI n2))]) hx hb dX3_isLikeKey_126 hl (by decide) rfl (fun ls hl => ?_)
                refine lv_iload hx hb dX3_isLikeKey_128 (lv_at hl 0 rfl) ?_
                refine lv_iconst (v := -1) hx hb dX3_isLikeKey_130 (by decide) ?_
                refine lv_icmp_ne (tgt := 136) hx hb dX3_isLikeKey_131 (by decide) (fun c131_26 => ?_) (fun c131_26 => ?_)
                · skip
                  obtain ⟨k0, ek0, g1, g2, g3, g4⟩ := fp_some c131_26
                  rw [ek0] at hl
                  obtain ⟨g5, g6, g7⟩ := gr_some hlt (hst hlt) g1 g2 g3 g4
                  refine lv_aload_n hx hb dX3_isLikeKey_136 rfl (lv_at hl 5 rfl) ?_
                  refine va_get (D := (dC, dI)) (ci := 3) (v := .ref sp) (C := RX3) (T := TX3) (N := 4) hx hb hw inX3 hown hK hP 0 rfl rfl 3 (by decide) (hw _ mw80) (fun _ h9 => h9) rfl dX3_isLikeKey_137 ?_
                  refine lv_iload_n hx hb dX3_isLikeKey_140 rfl (lv_at hl 7 rfl) ?_
                  refine lv_iload hx hb dX3_isLikeKey_141 (lv_at hl 0 rfl) ?_
                  refine lv_iload_n hx hb dX3_isLikeKey_143 rfl (lv_at hl 7 rfl) ?_
                  refine lv_isub hx hb dX3_isLikeKey_144 ?_
                  refine lv_topi (fun x28 ex28 => ?_)
                  obtain rfl : x28 = nI (k0 - p0) := by rw [ex28]; exact pk_sub g5
                  have hPc := hP.sub (ws' := [(sp, .inr (2, [.ref a1, .ref a2, .int (nI n2)])), (a1, .inl (k1, 100, .inl s1)), (a2, .inl (k2, 100, .inl s2))]) [7, 8, 9] rfl
                  have hDc := hD.sub (ws' := [(sp, .inr (2, [.ref a1, .ref a2, .int (nI n2)])), (a1, .inl (k1, 100, .inl s1)), (a2, .inl (k2, 100, .inl s2))]) [7, 8, 9] (by decide) rfl
                  have hKc := hK.sub (tys' := [(k1, .int), (k2, .int)]) [3, 4] rfl
                  have hFc := va_free (wc := [(sp, .inr (2, [.ref a1, .ref a2, .int (nI n2)])), (a1, .inl (k1, 100, .inl s1)), (a2, .inl (k2, 100, .inl s2))]) hD hS hA [7, 8, 9] rfl
                  refine va_callv (va_runV (As := [.int (nI p0), .int (nI (k0 - p0))]) (rest := []) ⟨hx, hb, hml, hown, hw⟩ (c_Sp_append l dC dI H.size sp a1 a2 k1 k2 s1 s2 n2 (by omega) (nI p0) (nI (k0 - p0))) (cwV 2 hw (gV mw176 mw177 mw178 mw19 mw179) rfl rfl rfl (by decide +kernel) ⟨Nat.le_of_ble_eq_true rfl, Nat.le_of_ble_eq_true rfl⟩) (wr.V (q0 := 0) (ci := 2) hN hKc hPc hDc rfl rfl) rfl rfl hl.1 rfl (lv_room (Nat.le_of_ble_eq_true rfl)) dX3_isLikeKey_145 ⟨Nat.le_of_ble_eq_true rfl, Nat.le_of_ble_eq_true rfl⟩) hS (fun q _ h => hFc q h) hFc (fun ur29 t H1 locs ht hvm hr29 hB hz1 hk1 hS => ?_)
                  subst hr29
                  obtain ⟨hP1, hD1⟩ := hB
                  rw [ht] at hP1
                  obtain ⟨hP, hD⟩ := va_join (wr := [(g, .inr (3, [.ref rv, .ref rk, .ref pt, .ref sp])), (rv, .inr (1, [.ref av, .int (nI nv)])), (av, .inl (kv, 100, .inl fv)), (rk, .inr (1, [.ref ak, .int (nI nk)])), (ak, .inl (kk, 100, .inl fk)), (pt, .inr (0, [.ref ap, .int (nI p1)])), (ap, .inl (kp, 100, .inl w))]) (w1 := [(sp, .inr (2, [.ref a1, .ref a2, .int (nI (n2 + 1))])), (a1, .inl (k1, 100, .inl (upd s1 n2 (nI p0)))), (a2, .inl (k2, 100, .inl (upd s2 n2 (nI (k0 - p0)))))]) hP hD [7, 8, 9] [0, 1, 2, 3, 4, 5, 6] rfl rfl (by decide) (by decide) hk1 hFc hP1 hD1
                  generalize H1 = H at hP hS ⊢
                  have hP : va_P (dC, dI) cl5 [(g, .inr (3, [.ref rv, .ref rk, .ref pt, .ref sp])), (rv, .inr (1, [.ref av, .int (nI nv)])), (av, .inl (kv, 100, .inl fv)), (rk, .inr (1, [.ref ak, .int (nI nk)])), (ak, .inl (kk, 100, .inl fk)), (pt, .inr (0, [.ref ap, .int (nI p1)])), (ap, .inl (kp, 100, .inl w)), (sp, .inr (2, [.ref a1, .ref a2, .int (nI (n2 + 1))])), (a1, .inl (k1, 100, .inl (upd s1 n2 (nI p0)))), (a2, .inl (k2, 100, .inl (upd s2 n2 (nI (k0 - p0)))))] H := hP.sub [0, 1, 2, 3, 4, 5, 6, 7, 8, 9] rfl
                  have hD : va_D A [(g, .inr (3, [.ref rv, .ref rk, .ref pt, .ref sp])), (rv, .inr (1, [.ref av, .int (nI nv)])), (av, .inl (kv, 100, .inl fv)), (rk, .inr (1, [.ref ak, .int (nI nk)])), (ak, .inl (kk, 100, .inl fk)), (pt, .inr (0, [.ref ap, .int (nI p1)])), (ap, .inl (kp, 100, .inl w)), (sp, .inr (2, [.ref a1, .ref a2, .int (nI (n2 + 1))])), (a1, .inl (k1, 100, .inl (upd s1 n2 (nI p0)))), (a2, .inl (k2, 100, .inl (upd s2 n2 (nI (k0 - p0)))))] := hD.sub [0, 1, 2, 3, 4, 5, 6, 7, 8, 9] (by decide) rfl
                  refine lv_iload hx hb dX3_isLikeKey_148 (lv_at hl 0 rfl) ?_
                  refine lv_iload_n hx hb dX3_isLikeKey_150 rfl (lv_at hl 3 rfl) ?_
                  refine lv_iload hx hb dX3_isLikeKey_151 (lv_at hl 4 rfl) ?_
                  refine lv_isub hx hb dX3_isLikeKey_153 ?_
                  refine lv_topi (fun x30 ex30 => ?_)
                  obtain rfl : x30 = nI (nst w p1 (e1 + 1) - (e1 + 1)) := by rw [ex30]; exact pk_sub nst_ge
                  refine lv_iadd hx hb dX3_isLikeKey_154 ?_
                  refine lv_topi (fun x31 ex31 => ?_)
                  obtain rfl : x31 = nI (k0 + (nst w p1 (e1 + 1) - (e1 + 1))) := by rw [ex31]; exact nI_add _ _
                  refine lv_istore_n (lv' := [(3, .int (nI (k0 + (nst w p1 (e1 + 1) - (e1 + 1))))), (8, .int (nI k0)), (7, .int (nI (ear p1 nv p0 (e1 + 1) (nst w p1 (e1 + 1))))), (6, .int (1)), (2, .int (nI (nst w p1 (e1 + 1)))), (5, .int (nI (e1 + 1))), (0, .ref g), (1, .int (cp)), (4, .int (nI n2))]) hx hb dX3_isLikeKey_155 rfl hl (by decide) rfl (fun ls hl => ?_)
                  refine lv_iinc (v := nI (n2 + 1)) (lv' := [(4, .int (nI (n2 + 1))), (3, .int (nI (k0 + (nst w p1 (e1 + 1) - (e1 + 1))))), (8, .int (nI k0)), (7, .int (nI (ear p1 nv p0 (e1 + 1) (nst w p1 (e1 + 1))))), (6, .int (1)), (2, .int (nI (nst w p1 (e1 + 1)))), (5, .int (nI (e1 + 1))), (0, .ref g), (1, .int (cp))]) hx hb dX3_isLikeKey_156 hl (k := 8) rfl (nI_inc n2) (by decide) rfl (fun ls hl => ?_)
                  refine lv_goto (tgt := 38) hx hb dX3_isLikeKey_159 (by decide) ?_
                  exact ih38 (nst w p1 (e1 + 1)) (k0 + (nst w p1 (e1 + 1) - (e1 + 1))) (n2 + 1) _ _ (acc ++ [(p0, k0 - p0)]) hE2 (fun h => nst_at (by omega) h) g2 (by omega) (i1.trans g6) (fun hm L hL => by rw [List.append_assoc]; exact i2 (g6.mpr hm) _ (g7 hm L hL)) (spIs_add i3) (by omega) H locs hP hD hS ls (lv_sub hl [7, 8, 5, 1, 0] rfl)
                · skip
                  have z9 := c131_26
                  refine lv_iconst (v := 0) hx hb dX3_isLikeKey_134 (by decide) ?_
                  subst hQ
                  exact W.zret (v := 0) hx hb hr (by decide) (fun t ht hW => ⟨⟨_, (w, p1, s1, s2, n2), rfl, ⟨hp1, by show n2 ≤ 100; omega, Or.inr ⟨rfl, by first | exact lk_fail hpl hw9 e8 z8 i1 | exact lk_no hpl hw9 (fun q => gr_none hlt (hst hlt) hv hpv (by first | exact z9 | exact Decidable.not_not.mp z9) (i1.mp q))⟩⟩, by rw [ht]; exact hP, hD⟩, hS.F ht⟩) hS.2.2 dX3_isLikeKey_135
    exact loop38 (p1 + 1) (nst w p1 0) (nst w p1 0) 0 f1 f2 [] hE (fun h => nst_at (Nat.zero_le _) h) (by omega) (Nat.zero_le _) ((segB (Nat.zero_le _) (fun i a b => nst_no a b) hE).trans ⟨fun q => by have := q.2; rwa [Nat.zero_add, Nat.sub_zero] at this, fun q => ⟨z0, by rwa [Nat.zero_add, Nat.sub_zero]⟩⟩) (fun _ L hL => (segSB (Nat.zero_le _) (fun i a b => nst_no a b) hE).mpr (by rwa [Nat.zero_add, Nat.sub_zero])) spIs_0 (by omega) H locs hP hD hS ls (lv_sub hl [3, 4, 2, 1, 0] rfl)
  · skip
    have z0 := ifb0 (by first | exact c28_6 | exact Decidable.not_not.mp c28_6)
    refine lv_iconst (v := 0) hx hb dX3_isLikeKey_31 (by decide) ?_
    subst hQ
    exact W.zret (v := 0) hx hb hr (by decide) (fun t ht hW => ⟨⟨_, (w, p1, f1, f2, 0), rfl, ⟨hp1, Nat.zero_le _, Or.inr ⟨rfl, lk_no hpl hw9 (fun q => by rw [segB (Nat.zero_le _) (fun i a b => nst_no a b) (nst_le (Nat.zero_le _)), z0] at q; exact absurd q.1 (by decide))⟩⟩, by rw [ht]; exact hP, hD⟩, hS.F ht⟩) hS.2.2 dX3_isLikeKey_32
