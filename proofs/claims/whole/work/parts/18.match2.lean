abbrev rm_c_matches : Room := { frames := 4, cells := 0, slots := 0, locals := 103 }
set_option maxHeartbeats 4000000 in
set_option maxRecDepth 100000 in
theorem c_matches (l : Launch) (dC : Nat → ClassId) (dI : Nat → Nat → Nat) (sz : Nat) (g rv rk pt sp av ak ap a1 a2 : Nat) (kv kk kp k1 k2 : ClassId) (fv fk fp f1 f2 : Nat → Int32) (nv nk np : Nat) (hv : nv ≤ 100) (hk : nk ≤ 100) (hp : np ≤ 100) (mm cp : Int32) (hm0 : 0 ≤ mm.toInt) (hm2 : mm.toInt ≤ 2) : Met l yX3_matches (.code yX3_matches cX3_matches 3 (some (.boolean)) :: wsA) rm_c_matches (va_Pc [.ref g, .int (mm), .int (cp)] (wr (dC, dI) [(g, .inr (3, [.ref rv, .ref rk, .ref pt, .ref sp])), (rv, .inr (1, [.ref av, .int (nI nv)])), (av, .inl (kv, 100, .inl fv)), (rk, .inr (1, [.ref ak, .int (nI nk)])), (ak, .inl (kk, 100, .inl fk)), (pt, .inr (0, [.ref ap, .int (nI np)])), (ap, .inl (kp, 100, .inl fp)), (sp, .inr (2, [.ref a1, .ref a2, .int (nI 0)])), (a1, .inl (k1, 100, .inl f1)), (a2, .inl (k2, 100, .inl f2))] [(kv, .int), (kk, .int), (kp, .int), (k1, .int), (k2, .int)] sz)) (va_Qi (fun (r : Int32) (u : (Nat → Int32) × Nat × (Nat → Int32) × (Nat → Int32) × Nat) => u.2.1 ≤ 100 ∧ u.2.2.2.2 ≤ 100 ∧ mres (sMat fv fk nv nk mm cp) r u.2.2.1 u.2.2.2.1 u.2.2.2.2) (wB (dC, dI) (va_A [(g, .inr (3, [.ref rv, .ref rk, .ref pt, .ref sp])), (rv, .inr (1, [.ref av, .int (nI nv)])), (av, .inl (kv, 100, .inl fv)), (rk, .inr (1, [.ref ak, .int (nI nk)])), (ak, .inl (kk, 100, .inl fk)), (pt, .inr (0, [.ref ap, .int (nI np)])), (ap, .inl (kp, 100, .inl fp)), (sp, .inr (2, [.ref a1, .ref a2, .int (nI 0)])), (a1, .inl (k1, 100, .inl f1)), (a2, .inl (k2, 100, .inl f2))] sz) (fun u : (Nat → Int32) × Nat × (Nat → Int32) × (Nat → Int32) × Nat => [(g, .inr (3, [.ref rv, .ref rk, .ref pt, .ref sp])), (rv, .inr (1, [.ref av, .int (nI nv)])), (av, .inl (kv, 100, .inl fv)), (rk, .inr (1, [.ref ak, .int (nI nk)])), (ak, .inl (kk, 100, .inl fk)), (pt, .inr (0, [.ref ap, .int (nI u.2.1)])), (ap, .inl (kp, 100, .inl (u.1))), (sp, .inr (2, [.ref a1, .ref a2, .int (nI u.2.2.2.2)])), (a1, .inl (k1, 100, .inl (u.2.2.1))), (a2, .inl (k2, 100, .inl (u.2.2.2.1)))])) (va_A [(g, .inr (3, [.ref rv, .ref rk, .ref pt, .ref sp])), (rv, .inr (1, [.ref av, .int (nI nv)])), (av, .inl (kv, 100, .inl fv)), (rk, .inr (1, [.ref ak, .int (nI nk)])), (ak, .inl (kk, 100, .inl fk)), (pt, .inr (0, [.ref ap, .int (nI np)])), (ap, .inl (kp, 100, .inl fp)), (sp, .inr (2, [.ref a1, .ref a2, .int (nI 0)])), (a1, .inl (k1, 100, .inl f1)), (a2, .inl (k2, 100, .inl f2))] sz)) 0 0 (va_A [(g, .inr (3, [.ref rv, .ref rk, .ref pt, .ref sp])), (rv, .inr (1, [.ref av, .int (nI nv)])), (av, .inl (kv, 100, .inl fv)), (rk, .inr (1, [.ref ak, .int (nI nk)])), (ak, .inl (kk, 100, .inl fk)), (pt, .inr (0, [.ref ap, .int (nI np)])), (ap, .inl (kp, 100, .inl fp)), (sp, .inr (2, [.ref a1, .ref a2, .int (nI 0)])), (a1, .inl (k1, 100, .inl f1)), (a2, .inl (k2, 100, .inl f2))] sz) := by
  refine Met.ofW (cc := cX3_matches) (maxL := 3) (ret := (some (.boolean))) (by decide) rfl ?_
  intro p e s m args below meth c s₁ B hml hv
  obtain ⟨hargs, hsz, hN, hP, hK, hD0⟩ := hv
  have hx := B.exec
  have hb := B.bytes
  have hr := B.returns
  have hw : ∀ w ∈ wsA, w.before args s = true := fun w h => atoms_spec (ws := (.code yX3_matches cX3_matches 3 (some (.boolean)) :: wsA)) B.pre w (List.mem_cons_of_mem _ h)
  have hown : s.vm.findClass "GlobDesk" = some m.cls := findClass_of_methodNamed B.named
  have hlocks := B.notSynchronized
  subst hsz
  have hD := hD0.self (sz := s.heap.size)
  generalize hAe : va_A [(g, .inr (3, [.ref rv, .ref rk, .ref pt, .ref sp])), (rv, .inr (1, [.ref av, .int (nI nv)])), (av, .inl (kv, 100, .inl fv)), (rk, .inr (1, [.ref ak, .int (nI nk)])), (ak, .inl (kk, 100, .inl fk)), (pt, .inr (0, [.ref ap, .int (nI np)])), (ap, .inl (kp, 100, .inl fp)), (sp, .inr (2, [.ref a1, .ref a2, .int (nI 0)])), (a1, .inl (k1, 100, .inl f1)), (a2, .inl (k2, 100, .inl f2))] s.heap.size = A at hD ⊢
  have hA : ∀ q : Nat, s.heap.size ≤ q → A q := fun q h => by rw [← hAe]; exact Or.inr h
  have hS : va_S A s.heap s.heap [] := va_S.rf
  generalize hQ : MQ below _ args s _ _ _ = Q
  change W p l e rm_c_matches s m args below meth c s.heap [] 0 0 Q (entryFrame m args 3)
  have hl := lv_entry ([.ref g, .int (mm), .int (cp)]) (n := 3) (Nat.le_of_ble_eq_true rfl)
  rw [show entryFrame m args 3 = entryFrame m ([.ref g, .int (mm), .int (cp)] : List Value).toArray 3 from by rw [hargs], lg_entry_eq]
  generalize (lg_sl ([.ref g, .int (mm), .int (cp)]) ++ List.replicate (3 - (lg_sl ([.ref g, .int (mm), .int (cp)])).length) Slot.unset).toArray = ls at hl ⊢
  have hl : lv_has ls 3 [(0, .ref g), (1, .int (mm)), (2, .int (cp))] := hl
  refine lv_iload_n hx hb dX3_matches_0 rfl (lv_at hl 1 rfl) ?_
  refine lv_if_ne (tgt := 18) hx hb dX3_matches_1 (by decide) (fun c1_0 => ?_) (fun c1_0 => ?_)
  · skip
    have z0 : ¬ mm = 0 := c1_0
    refine lv_iload_n hx hb dX3_matches_18 rfl (lv_at hl 2 rfl) ?_
    refine lv_iconst (v := 2) hx hb dX3_matches_19 (by decide) ?_
    refine lv_icmp_ne (tgt := 25) hx hb dX3_matches_20 (by decide) (fun c20_1 => ?_) (fun c20_1 => ?_)
    · skip
      have z2 : ¬ cp = 2 := c20_1
      refine lv_iload_n hx hb dX3_matches_25 rfl (lv_at hl 1 rfl) ?_
      refine lv_iconst (v := 1) hx hb dX3_matches_26 (by decide) ?_
      refine lv_icmp_ne (tgt := 38) hx hb dX3_matches_27 (by decide) (fun c27_2 => ?_) (fun c27_2 => ?_)
      · skip
        have z3 : ¬ mm = 1 := c27_2
        refine lv_aload_n hx hb dX3_matches_38 rfl (lv_at hl 0 rfl) ?_
        refine lv_iload_n hx hb dX3_matches_39 rfl (lv_at hl 2 rfl) ?_
        have hPc := hP.sub (ws' := [(g, .inr (3, [.ref rv, .ref rk, .ref pt, .ref sp])), (rv, .inr (1, [.ref av, .int (nI nv)])), (av, .inl (kv, 100, .inl fv)), (rk, .inr (1, [.ref ak, .int (nI nk)])), (ak, .inl (kk, 100, .inl fk)), (pt, .inr (0, [.ref ap, .int (nI np)])), (ap, .inl (kp, 100, .inl fp)), (sp, .inr (2, [.ref a1, .ref a2, .int (nI 0)])), (a1, .inl (k1, 100, .inl f1)), (a2, .inl (k2, 100, .inl f2))]) [0, 1, 2, 3, 4, 5, 6, 7, 8, 9] rfl
        have hDc := hD.sub (ws' := [(g, .inr (3, [.ref rv, .ref rk, .ref pt, .ref sp])), (rv, .inr (1, [.ref av, .int (nI nv)])), (av, .inl (kv, 100, .inl fv)), (rk, .inr (1, [.ref ak, .int (nI nk)])), (ak, .inl (kk, 100, .inl fk)), (pt, .inr (0, [.ref ap, .int (nI np)])), (ap, .inl (kp, 100, .inl fp)), (sp, .inr (2, [.ref a1, .ref a2, .int (nI 0)])), (a1, .inl (k1, 100, .inl f1)), (a2, .inl (k2, 100, .inl f2))]) [0, 1, 2, 3, 4, 5, 6, 7, 8, 9] (by decide) rfl
        have hKc := hK.sub (tys' := [(kv, .int), (kk, .int), (kp, .int), (k1, .int), (k2, .int)]) [0, 1, 2, 3, 4] rfl
        have hFc := va_free (wc := [(g, .inr (3, [.ref rv, .ref rk, .ref pt, .ref sp])), (rv, .inr (1, [.ref av, .int (nI nv)])), (av, .inl (kv, 100, .inl fv)), (rk, .inr (1, [.ref ak, .int (nI nk)])), (ak, .inl (kk, 100, .inl fk)), (pt, .inr (0, [.ref ap, .int (nI np)])), (ap, .inl (kp, 100, .inl fp)), (sp, .inr (2, [.ref a1, .ref a2, .int (nI 0)])), (a1, .inl (k1, 100, .inl f1)), (a2, .inl (k2, 100, .inl f2))]) hD hS hA [0, 1, 2, 3, 4, 5, 6, 7, 8, 9] rfl
        refine va_calli (va_runV (As := [.int (cp)]) (rest := []) ⟨hx, hb, hml, hown, hw⟩ (c_like l dC dI s.heap.size g rv rk pt sp av ak ap a1 a2 kv kk kp k1 k2 fv fk fp f1 f2 nv nk np hv hk hp cp) (cwV 1 hw (gV mw180 mw182 mw9 mw16 mw183) rfl rfl rfl (by decide +kernel) ⟨Nat.le_of_ble_eq_true rfl, Nat.le_of_ble_eq_true rfl⟩) (wr.V (q0 := 0) (ci := 3) hN hKc hPc hDc rfl rfl) rfl rfl hl.1 rfl (lv_room (Nat.le_of_ble_eq_true rfl)) dX3_matches_40 ⟨Nat.le_of_ble_eq_true rfl, Nat.le_of_ble_eq_true rfl⟩) hS (fun q _ h => hFc q h) hFc (fun r4 ur4 t H1 locs ht hvm hr4 hB hz1 hk1 hS => ?_)
        obtain ⟨w, p1, s1, s2, n2⟩ := ur4
        obtain ⟨hp1, hs1, hmr⟩ := hr4
        dsimp only at hp1 hs1 hmr
        obtain ⟨hP1, hD1⟩ := hB
        rw [ht] at hP1
        obtain ⟨hP, hD⟩ := va_join (wr := []) (w1 := [(g, .inr (3, [.ref rv, .ref rk, .ref pt, .ref sp])), (rv, .inr (1, [.ref av, .int (nI nv)])), (av, .inl (kv, 100, .inl fv)), (rk, .inr (1, [.ref ak, .int (nI nk)])), (ak, .inl (kk, 100, .inl fk)), (pt, .inr (0, [.ref ap, .int (nI p1)])), (ap, .inl (kp, 100, .inl w)), (sp, .inr (2, [.ref a1, .ref a2, .int (nI n2)])), (a1, .inl (k1, 100, .inl s1)), (a2, .inl (k2, 100, .inl s2))]) hP hD [0, 1, 2, 3, 4, 5, 6, 7, 8, 9] [] rfl rfl (by decide) (by decide) hk1 hFc hP1 hD1
        generalize H1 = H at hP hS ⊢
        have hP : va_P (dC, dI) cl5 [(g, .inr (3, [.ref rv, .ref rk, .ref pt, .ref sp])), (rv, .inr (1, [.ref av, .int (nI nv)])), (av, .inl (kv, 100, .inl fv)), (rk, .inr (1, [.ref ak, .int (nI nk)])), (ak, .inl (kk, 100, .inl fk)), (pt, .inr (0, [.ref ap, .int (nI p1)])), (ap, .inl (kp, 100, .inl w)), (sp, .inr (2, [.ref a1, .ref a2, .int (nI n2)])), (a1, .inl (k1, 100, .inl s1)), (a2, .inl (k2, 100, .inl s2))] H := hP.sub [0, 1, 2, 3, 4, 5, 6, 7, 8, 9] rfl
        have hD : va_D A [(g, .inr (3, [.ref rv, .ref rk, .ref pt, .ref sp])), (rv, .inr (1, [.ref av, .int (nI nv)])), (av, .inl (kv, 100, .inl fv)), (rk, .inr (1, [.ref ak, .int (nI nk)])), (ak, .inl (kk, 100, .inl fk)), (pt, .inr (0, [.ref ap, .int (nI p1)])), (ap, .inl (kp, 100, .inl w)), (sp, .inr (2, [.ref a1, .ref a2, .int (nI n2)])), (a1, .inl (k1, 100, .inl s1)), (a2, .inl (k2, 100, .inl s2))] := hD.sub [0, 1, 2, 3, 4, 5, 6, 7, 8, 9] (by decide) rfl
        subst hQ
        exact W.zret (v := r4) hx hb hr (mres_b hmr) (fun t ht hW => ⟨⟨_, (w, p1, s1, s2, n2), rfl, ⟨hp1, hs1, by first | exact mres_mono (sMat_1 z3 z2) hmr | exact mres_mono (sMat_2 (two32 hm0 hm2 z0 z3) z2) hmr⟩, by rw [ht]; exact hP, hD⟩, hS.F ht⟩) hS.2.2 dX3_matches_43
      · skip
        have z3 : mm = 1 := (by first | exact c27_2 | exact Decidable.not_not.mp c27_2)
        refine lv_aload_n hx hb dX3_matches_30 rfl (lv_at hl 0 rfl) ?_
        refine lv_iload_n hx hb dX3_matches_31 rfl (lv_at hl 2 rfl) ?_
        have hPc := hP.sub (ws' := [(g, .inr (3, [.ref rv, .ref rk, .ref pt, .ref sp])), (rv, .inr (1, [.ref av, .int (nI nv)])), (av, .inl (kv, 100, .inl fv)), (rk, .inr (1, [.ref ak, .int (nI nk)])), (ak, .inl (kk, 100, .inl fk)), (pt, .inr (0, [.ref ap, .int (nI np)])), (ap, .inl (kp, 100, .inl fp)), (sp, .inr (2, [.ref a1, .ref a2, .int (nI 0)])), (a1, .inl (k1, 100, .inl f1)), (a2, .inl (k2, 100, .inl f2))]) [0, 1, 2, 3, 4, 5, 6, 7, 8, 9] rfl
        have hDc := hD.sub (ws' := [(g, .inr (3, [.ref rv, .ref rk, .ref pt, .ref sp])), (rv, .inr (1, [.ref av, .int (nI nv)])), (av, .inl (kv, 100, .inl fv)), (rk, .inr (1, [.ref ak, .int (nI nk)])), (ak, .inl (kk, 100, .inl fk)), (pt, .inr (0, [.ref ap, .int (nI np)])), (ap, .inl (kp, 100, .inl fp)), (sp, .inr (2, [.ref a1, .ref a2, .int (nI 0)])), (a1, .inl (k1, 100, .inl f1)), (a2, .inl (k2, 100, .inl f2))]) [0, 1, 2, 3, 4, 5, 6, 7, 8, 9] (by decide) rfl
        have hKc := hK.sub (tys' := [(kv, .int), (kk, .int), (kp, .int), (k1, .int), (k2, .int)]) [0, 1, 2, 3, 4] rfl
        have hFc := va_free (wc := [(g, .inr (3, [.ref rv, .ref rk, .ref pt, .ref sp])), (rv, .inr (1, [.ref av, .int (nI nv)])), (av, .inl (kv, 100, .inl fv)), (rk, .inr (1, [.ref ak, .int (nI nk)])), (ak, .inl (kk, 100, .inl fk)), (pt, .inr (0, [.ref ap, .int (nI np)])), (ap, .inl (kp, 100, .inl fp)), (sp, .inr (2, [.ref a1, .ref a2, .int (nI 0)])), (a1, .inl (k1, 100, .inl f1)), (a2, .inl (k2, 100, .inl f2))]) hD hS hA [0, 1, 2, 3, 4, 5, 6, 7, 8, 9] rfl
        refine va_calli (va_runV (As := [.int (cp)]) (rest := []) ⟨hx, hb, hml, hown, hw⟩ (c_con l dC dI s.heap.size g rv rk pt sp av ak ap a1 a2 kv kk kp k1 k2 fv fk fp f1 f2 nv nk np hv hk hp cp) (cwV 1 hw (gV mw151 mw153 mw5 mw16 mw154) rfl rfl rfl (by decide +kernel) ⟨Nat.le_of_ble_eq_true rfl, Nat.le_of_ble_eq_true rfl⟩) (wr.V (q0 := 0) (ci := 3) hN hKc hPc hDc rfl rfl) rfl rfl hl.1 rfl (lv_room (Nat.le_of_ble_eq_true rfl)) dX3_matches_32 ⟨Nat.le_of_ble_eq_true rfl, Nat.le_of_ble_eq_true rfl⟩) hS (fun q _ h => hFc q h) hFc (fun r5 ur5 t H1 locs ht hvm hr5 hB hz1 hk1 hS => ?_)
        obtain ⟨w, p1, s1, s2, n2⟩ := ur5
        obtain ⟨hp1, hs1, hmr⟩ := hr5
        dsimp only at hp1 hs1 hmr
        obtain ⟨hP1, hD1⟩ := hB
        rw [ht] at hP1
        obtain ⟨hP, hD⟩ := va_join (wr := []) (w1 := [(g, .inr (3, [.ref rv, .ref rk, .ref pt, .ref sp])), (rv, .inr (1, [.ref av, .int (nI nv)])), (av, .inl (kv, 100, .inl fv)), (rk, .inr (1, [.ref ak, .int (nI nk)])), (ak, .inl (kk, 100, .inl fk)), (pt, .inr (0, [.ref ap, .int (nI p1)])), (ap, .inl (kp, 100, .inl w)), (sp, .inr (2, [.ref a1, .ref a2, .int (nI n2)])), (a1, .inl (k1, 100, .inl s1)), (a2, .inl (k2, 100, .inl s2))]) hP hD [0, 1, 2, 3, 4, 5, 6, 7, 8, 9] [] rfl rfl (by decide) (by decide) hk1 hFc hP1 hD1
        generalize H1 = H at hP hS ⊢
        have hP : va_P (dC, dI) cl5 [(g, .inr (3, [.ref rv, .ref rk, .ref pt, .ref sp])), (rv, .inr (1, [.ref av, .int (nI nv)])), (av, .inl (kv, 100, .inl fv)), (rk, .inr (1, [.ref ak, .int (nI nk)])), (ak, .inl (kk, 100, .inl fk)), (pt, .inr (0, [.ref ap, .int (nI p1)])), (ap, .inl (kp, 100, .inl w)), (sp, .inr (2, [.ref a1, .ref a2, .int (nI n2)])), (a1, .inl (k1, 100, .inl s1)), (a2, .inl (k2, 100, .inl s2))] H := hP.sub [0, 1, 2, 3, 4, 5, 6, 7, 8, 9] rfl
        have hD : va_D A [(g, .inr (3, [.ref rv, .ref rk, .ref pt, .ref sp])), (rv, .inr (1, [.ref av, .int (nI nv)])), (av, .inl (kv, 100, .inl fv)), (rk, .inr (1, [.ref ak, .int (nI nk)])), (ak, .inl (kk, 100, .inl fk)), (pt, .inr (0, [.ref ap, .int (nI p1)])), (ap, .inl (kp, 100, .inl w)), (sp, .inr (2, [.ref a1, .ref a2, .int (nI n2)])), (a1, .inl (k1, 100, .inl s1)), (a2, .inl (k2, 100, .inl s2))] := hD.sub [0, 1, 2, 3, 4, 5, 6, 7, 8, 9] (by decide) rfl
        refine lv_goto (tgt := 43) hx hb dX3_matches_35 (by decide) ?_
        subst hQ
        exact W.zret (v := r5) hx hb hr (mres_b hmr) (fun t ht hW => ⟨⟨_, (w, p1, s1, s2, n2), rfl, ⟨hp1, hs1, by first | exact mres_mono (sMat_1 z3 z2) hmr | exact mres_mono (sMat_2 (two32 hm0 hm2 z0 z3) z2) hmr⟩, by rw [ht]; exact hP, hD⟩, hS.F ht⟩) hS.2.2 dX3_matches_43
    · skip
      have z2 : cp = 2 := (by first | exact c20_1 | exact Decidable.not_not.mp c20_1)
      refine lv_iconst (v := 0) hx hb dX3_matches_23 (by decide) ?_
      subst hQ
      exact W.zret (v := 0) hx hb hr (by decide) (fun t ht hW => ⟨⟨_, (fp, np, f1, f2, 0), rfl, ⟨hp, Nat.zero_le _, Or.inr ⟨rfl, by first | exact sMat_c z0 z2 | exact (fun L q => z1 ((sMat_0 z0 L).mpr q).1)⟩⟩, by rw [ht]; exact hP, hD⟩, hS.F ht⟩) hS.2.2 dX3_matches_24
  · skip
    have z0 : mm = 0 := (by first | exact c1_0 | exact Decidable.not_not.mp c1_0)
    refine lv_aload_n hx hb dX3_matches_4 rfl (lv_at hl 0 rfl) ?_
    refine lv_iload_n hx hb dX3_matches_5 rfl (lv_at hl 2 rfl) ?_
    refine vp_callSi (va_Run.run (va_runV (As := [.int (cp)]) (rest := []) ⟨hx, hb, hml, hown, hw⟩ (c_st l dC dI g rv rk pt sp av ak ap a1 a2 kv kk kp k1 k2 fv fk fp f1 f2 nv nk np 0 hv hk hp (Nat.zero_le _) cp) (cwV 1 hw (gV mw117 mw119 mw2 mw16 mw120) rfl rfl rfl (by decide +kernel) ⟨Nat.le_of_ble_eq_true rfl, Nat.le_of_ble_eq_true rfl⟩) (ro.V (q0 := 0) (ci := 3) hN (hK.sub (tys' := [(kv, .int), (kk, .int), (kp, .int), (k1, .int), (k2, .int)]) [0, 1, 2, 3, 4] rfl) (hP.sub (ws' := [(g, .inr (3, [.ref rv, .ref rk, .ref pt, .ref sp])), (rv, .inr (1, [.ref av, .int (nI nv)])), (av, .inl (kv, 100, .inl fv)), (rk, .inr (1, [.ref ak, .int (nI nk)])), (ak, .inl (kk, 100, .inl fk)), (pt, .inr (0, [.ref ap, .int (nI np)])), (ap, .inl (kp, 100, .inl fp)), (sp, .inr (2, [.ref a1, .ref a2, .int (nI 0)])), (a1, .inl (k1, 100, .inl f1)), (a2, .inl (k2, 100, .inl f2))]) [0, 1, 2, 3, 4, 5, 6, 7, 8, 9] rfl) rfl rfl) rfl rfl hl.1 rfl (lv_room (Nat.le_of_ble_eq_true rfl)) dX3_matches_6 ⟨Nat.le_of_ble_eq_true rfl, Nat.le_of_ble_eq_true rfl⟩)) (fun r6 hr6 => ?_)
    subst hr6
    refine lv_if_ne (tgt := 16) hx hb dX3_matches_9 (by decide) (fun c9_6 => ?_) (fun c9_6 => ?_)
    · skip
      have z1 : ¬ stF fv fk nv nk cp = 0 := c9_6
      refine lv_iconst (v := 0) hx hb dX3_matches_16 (by decide) ?_
      subst hQ
      exact W.zret (v := 0) hx hb hr (by decide) (fun t ht hW => ⟨⟨_, (fp, np, f1, f2, 0), rfl, ⟨hp, Nat.zero_le _, Or.inr ⟨rfl, by first | exact sMat_c z0 z2 | exact (fun L q => z1 ((sMat_0 z0 L).mpr q).1)⟩⟩, by rw [ht]; exact hP, hD⟩, hS.F ht⟩) hS.2.2 dX3_matches_17
    · skip
      have z1 : stF fv fk nv nk cp = 0 := (by first | exact c9_6 | exact Decidable.not_not.mp c9_6)
      refine lv_iconst (v := 1) hx hb dX3_matches_12 (by decide) ?_
      refine lv_goto (tgt := 17) hx hb dX3_matches_13 (by decide) ?_
      subst hQ
      exact W.zret (v := 1) hx hb hr (by decide) (fun t ht hW => ⟨⟨_, (fp, np, f1, f2, 0), rfl, ⟨hp, Nat.zero_le _, Or.inl ⟨rfl, [], (sMat_0 z0 []).mp ⟨z1, rfl⟩, spIs_0⟩⟩, by rw [ht]; exact hP, hD⟩, hS.F ht⟩) hS.2.2 dX3_matches_17

abbrev rm_c_match : Room := { frames := 5, cells := 0, slots := 0, locals := 125 }
set_option maxHeartbeats 4000000 in
set_option maxRecDepth 100000 in
theorem c_match (l : Launch) (dC : Nat → ClassId) (dI : Nat → Nat → Nat) (sz : Nat) (g rv rk pt sp av ak ap a1 a2 : Nat) (kv kk kp k1 k2 : ClassId) (fv fk fp f1 f2 : Nat → Int32) (nv nk np ns : Nat) (hv : nv ≤ 100) (hk : nk ≤ 100) (hp : np ≤ 100) (hs : ns ≤ 100) (mm cp : Int32) : Met l yX3_match (.code yX3_match cX3_match 3 (some (.int)) :: wsA) rm_c_match (va_Pc [.ref g, .int (mm), .int (cp)] (wr (dC, dI) [(g, .inr (3, [.ref rv, .ref rk, .ref pt, .ref sp])), (rv, .inr (1, [.ref av, .int (nI nv)])), (av, .inl (kv, 100, .inl fv)), (rk, .inr (1, [.ref ak, .int (nI nk)])), (ak, .inl (kk, 100, .inl fk)), (pt, .inr (0, [.ref ap, .int (nI np)])), (ap, .inl (kp, 100, .inl fp)), (sp, .inr (2, [.ref a1, .ref a2, .int (nI ns)])), (a1, .inl (k1, 100, .inl f1)), (a2, .inl (k2, 100, .inl f2))] [(kv, .int), (kk, .int), (kp, .int), (k1, .int), (k2, .int)] sz)) (va_Qi (fun (r : Int32) (u : (Nat → Int32) × Nat × (Nat → Int32) × (Nat → Int32) × Nat) => u.2.1 ≤ 100 ∧ u.2.2.2.2 ≤ 100 ∧ mfin fv fk nv nk mm cp f1 f2 ns r u.2.2.1 u.2.2.2.1 u.2.2.2.2) (wB (dC, dI) (va_A [(g, .inr (3, [.ref rv, .ref rk, .ref pt, .ref sp])), (rv, .inr (1, [.ref av, .int (nI nv)])), (av, .inl (kv, 100, .inl fv)), (rk, .inr (1, [.ref ak, .int (nI nk)])), (ak, .inl (kk, 100, .inl fk)), (pt, .inr (0, [.ref ap, .int (nI np)])), (ap, .inl (kp, 100, .inl fp)), (sp, .inr (2, [.ref a1, .ref a2, .int (nI ns)])), (a1, .inl (k1, 100, .inl f1)), (a2, .inl (k2, 100, .inl f2))] sz) (fun u : (Nat → Int32) × Nat × (Nat → Int32) × (Nat → Int32) × Nat => [(g, .inr (3, [.ref rv, .ref rk, .ref pt, .ref sp])), (rv, .inr (1, [.ref av, .int (nI nv)])), (av, .inl (kv, 100, .inl fv)), (rk, .inr (1, [.ref ak, .int (nI nk)])), (ak, .inl (kk, 100, .inl fk)), (pt, .inr (0, [.ref ap, .int (nI u.2.1)])), (ap, .inl (kp, 100, .inl (u.1))), (sp, .inr (2, [.ref a1, .ref a2, .int (nI u.2.2.2.2)])), (a1, .inl (k1, 100, .inl (u.2.2.1))), (a2, .inl (k2, 100, .inl (u.2.2.2.1)))])) (va_A [(g, .inr (3, [.ref rv, .ref rk, .ref pt, .ref sp])), (rv, .inr (1, [.ref av, .int (nI nv)])), (av, .inl (kv, 100, .inl fv)), (rk, .inr (1, [.ref ak, .int (nI nk)])), (ak, .inl (kk, 100, .inl fk)), (pt, .inr (0, [.ref ap, .int (nI np)])), (ap, .inl (kp, 100, .inl fp)), (sp, .inr (2, [.ref a1, .ref a2, .int (nI ns)])), (a1, .inl (k1, 100, .inl f1)), (a2, .inl (k2, 100, .inl f2))] sz)) 0 0 (va_A [(g, .inr (3, [.ref rv, .ref rk, .ref pt, .ref sp])), (rv, .inr (1, [.ref av, .int (nI nv)])), (av, .inl (kv, 100, .inl fv)), (rk, .inr (1, [.ref ak, .int (nI nk)])), (ak, .inl (kk, 100, .inl fk)), (pt, .inr (0, [.ref ap, .int (nI np)])), (ap, .inl (kp, 100, .inl fp)), (sp, .inr (2, [.ref a1, .ref a2, .int (nI ns)])), (a1, .inl (k1, 100, .inl f1)), (a2, .inl (k2, 100, .inl f2))] sz) := by
  refine Met.ofW (cc := cX3_match) (maxL := 3) (ret := (some (.int))) (by decide) rfl ?_
  intro p e s m args below meth c s₁ B hml hv
  obtain ⟨hargs, hsz, hN, hP, hK, hD0⟩ := hv
  have hx := B.exec
  have hb := B.bytes
  have hr := B.returns
  have hw : ∀ w ∈ wsA, w.before args s = true := fun w h => atoms_spec (ws := (.code yX3_match cX3_match 3 (some (.int)) :: wsA)) B.pre w (List.mem_cons_of_mem _ h)
  have hown : s.vm.findClass "GlobDesk" = some m.cls := findClass_of_methodNamed B.named
  have hlocks := B.notSynchronized
  subst hsz
  have hD := hD0.self (sz := s.heap.size)
  generalize hAe : va_A [(g, .inr (3, [.ref rv, .ref rk, .ref pt, .ref sp])), (rv, .inr (1, [.ref av, .int (nI nv)])), (av, .inl (kv, 100, .inl fv)), (rk, .inr (1, [.ref ak, .int (nI nk)])), (ak, .inl (kk, 100, .inl fk)), (pt, .inr (0, [.ref ap, .int (nI np)])), (ap, .inl (kp, 100, .inl fp)), (sp, .inr (2, [.ref a1, .ref a2, .int (nI ns)])), (a1, .inl (k1, 100, .inl f1)), (a2, .inl (k2, 100, .inl f2))] s.heap.size = A at hD ⊢
  have hA : ∀ q : Nat, s.heap.size ≤ q → A q := fun q h => by rw [← hAe]; exact Or.inr h
  have hS : va_S A s.heap s.heap [] := va_S.rf
  generalize hQ : MQ below _ args s _ _ _ = Q
  change W p l e rm_c_match s m args below meth c s.heap [] 0 0 Q (entryFrame m args 3)
  have hl := lv_entry ([.ref g, .int (mm), .int (cp)]) (n := 3) (Nat.le_of_ble_eq_true rfl)
  rw [show entryFrame m args 3 = entryFrame m ([.ref g, .int (mm), .int (cp)] : List Value).toArray 3 from by rw [hargs], lg_entry_eq]
  generalize (lg_sl ([.ref g, .int (mm), .int (cp)]) ++ List.replicate (3 - (lg_sl ([.ref g, .int (mm), .int (cp)])).length) Slot.unset).toArray = ls at hl ⊢
  have hl : lv_has ls 3 [(0, .ref g), (1, .int (mm)), (2, .int (cp))] := hl
  refine lv_iload_n hx hb dX3_match_0 rfl (lv_at hl 1 rfl) ?_
  refine lv_if_lt (tgt := 16) hx hb dX3_match_1 (by decide) (fun c1_0 => ?_) (fun c1_0 => ?_)
  · skip
    rw [ti_lt, tc_0] at c1_0
    have zo : ¬ mOk mm cp := fun q => by have := q.1; omega
    refine lv_iconst (v := -1) hx hb dX3_match_16 (by decide) ?_
    subst hQ
    exact W.iret (v := (-1)) hx hb hr (fun t ht hW => ⟨⟨_, (fp, np, f1, f2, ns), rfl, ⟨hp, hs, Or.inr ⟨zo, rfl, rfl, rfl, rfl⟩⟩, by rw [ht]; exact hP, hD⟩, hS.F ht⟩) hS.2.2 dX3_match_17
  · skip
    rw [ti_lt, tc_0] at c1_0
    refine lv_iload_n hx hb dX3_match_4 rfl (lv_at hl 1 rfl) ?_
    refine lv_iconst (v := 2) hx hb dX3_match_5 (by decide) ?_
    refine lv_icmp_gt (tgt := 16) hx hb dX3_match_6 (by decide) (fun c6_1 => ?_) (fun c6_1 => ?_)
    · skip
      rw [ti_lt, tc_2] at c6_1
      have zo : ¬ mOk mm cp := fun q => by have := q.2.1; omega
      refine lv_iconst (v := -1) hx hb dX3_match_16 (by decide) ?_
      subst hQ
      exact W.iret (v := (-1)) hx hb hr (fun t ht hW => ⟨⟨_, (fp, np, f1, f2, ns), rfl, ⟨hp, hs, Or.inr ⟨zo, rfl, rfl, rfl, rfl⟩⟩, by rw [ht]; exact hP, hD⟩, hS.F ht⟩) hS.2.2 dX3_match_17
    · skip
      rw [ti_lt, tc_2] at c6_1
      have zm : 0 ≤ mm.toInt ∧ mm.toInt ≤ 2 := by omega
      refine lv_iload_n hx hb dX3_match_9 rfl (lv_at hl 2 rfl) ?_
      refine vp_callSi (va_Run.run (va_runS (As := [.int (cp)]) (rest := []) ⟨hx, hb, hml, hown, hw⟩ (c_isCmp l (cp)) (cwS 1 hw (gS mw110 mw111 mw16 mw112) rfl rfl rfl (by decide +kernel) ⟨Nat.le_of_ble_eq_true rfl, Nat.le_of_ble_eq_true rfl⟩) st.S rfl rfl hl.1 rfl (lv_room (Nat.le_of_ble_eq_true rfl)) dX3_match_10 ⟨Nat.le_of_ble_eq_true rfl, Nat.le_of_ble_eq_true rfl⟩)) (fun r3 hr3 => ?_)
      subst hr3
      refine lv_if_ne (tgt := 18) hx hb dX3_match_13 (by decide) (fun c13_3 => ?_) (fun c13_3 => ?_)
      · skip
        have q1 : 0 ≤ cp.toInt ∧ cp.toInt ≤ 2 := Decidable.byContradiction (fun q => c13_3 (if_neg q))
        have zo : mOk mm cp := ⟨zm.1, zm.2, q1.1, q1.2⟩
        refine lv_aload_n hx hb dX3_match_18 rfl (lv_at hl 0 rfl) ?_
        refine va_get (D := (dC, dI)) (ci := 3) (v := .ref sp) (C := RX3) (T := TX3) (N := 4) hx hb hw inX3 hown hK hP 0 rfl rfl 3 (by decide) (hw _ mw80) (fun _ h9 => h9) rfl dX3_match_19 ?_
        refine lv_iconst (v := 0) hx hb dX3_match_22 (by decide) ?_
        refine lv_topi (fun x5 ex5 => ?_)
        obtain rfl : x5 = nI 0 := by rw [ex5]; exact nI_0.symm
        refine va_putN (D := (dC, dI)) (ci := 2) (v := .int (nI 0)) (ty := .int) (C := RX2) (T := TX2) (N := 3) hx hb hw inX2 tyX2 tyX2_ok nmX2 hown hK hP hD hS 7 rfl rfl 2 (by decide) (va_Nw.use rfl hN.2.2.2.2.2.2) (fun _ h9 => h9) rfl (by decide +kernel) rfl rfl (Nat.le_of_ble_eq_true rfl) dX3_match_23 (fun H locs hP hD hS => ?_)
        have hP : va_P (dC, dI) cl5 [(g, .inr (3, [.ref rv, .ref rk, .ref pt, .ref sp])), (rv, .inr (1, [.ref av, .int (nI nv)])), (av, .inl (kv, 100, .inl fv)), (rk, .inr (1, [.ref ak, .int (nI nk)])), (ak, .inl (kk, 100, .inl fk)), (pt, .inr (0, [.ref ap, .int (nI np)])), (ap, .inl (kp, 100, .inl fp)), (sp, .inr (2, [.ref a1, .ref a2, .int (nI 0)])), (a1, .inl (k1, 100, .inl f1)), (a2, .inl (k2, 100, .inl f2))] H := hP
        have hD : va_D A [(g, .inr (3, [.ref rv, .ref rk, .ref pt, .ref sp])), (rv, .inr (1, [.ref av, .int (nI nv)])), (av, .inl (kv, 100, .inl fv)), (rk, .inr (1, [.ref ak, .int (nI nk)])), (ak, .inl (kk, 100, .inl fk)), (pt, .inr (0, [.ref ap, .int (nI np)])), (ap, .inl (kp, 100, .inl fp)), (sp, .inr (2, [.ref a1, .ref a2, .int (nI 0)])), (a1, .inl (k1, 100, .inl f1)), (a2, .inl (k2, 100, .inl f2))] := hD
        refine lv_aload_n hx hb dX3_match_26 rfl (lv_at hl 0 rfl) ?_
        refine lv_iload_n hx hb dX3_match_27 rfl (lv_at hl 1 rfl) ?_
        refine lv_iload_n hx hb dX3_match_28 rfl (lv_at hl 2 rfl) ?_
        have hPc := hP.sub (ws' := [(g, .inr (3, [.ref rv, .ref rk, .ref pt, .ref sp])), (rv, .inr (1, [.ref av, .int (nI nv)])), (av, .inl (kv, 100, .inl fv)), (rk, .inr (1, [.ref ak, .int (nI nk)])), (ak, .inl (kk, 100, .inl fk)), (pt, .inr (0, [.ref ap, .int (nI np)])), (ap, .inl (kp, 100, .inl fp)), (sp, .inr (2, [.ref a1, .ref a2, .int (nI 0)])), (a1, .inl (k1, 100, .inl f1)), (a2, .inl (k2, 100, .inl f2))]) [0, 1, 2, 3, 4, 5, 6, 7, 8, 9] rfl
        have hDc := hD.sub (ws' := [(g, .inr (3, [.ref rv, .ref rk, .ref pt, .ref sp])), (rv, .inr (1, [.ref av, .int (nI nv)])), (av, .inl (kv, 100, .inl fv)), (rk, .inr (1, [.ref ak, .int (nI nk)])), (ak, .inl (kk, 100, .inl fk)), (pt, .inr (0, [.ref ap, .int (nI np)])), (ap, .inl (kp, 100, .inl fp)), (sp, .inr (2, [.ref a1, .ref a2, .int (nI 0)])), (a1, .inl (k1, 100, .inl f1)), (a2, .inl (k2, 100, .inl f2))]) [0, 1, 2, 3, 4, 5, 6, 7, 8, 9] (by decide) rfl
        have hKc := hK.sub (tys' := [(kv, .int), (kk, .int), (kp, .int), (k1, .int), (k2, .int)]) [0, 1, 2, 3, 4] rfl
        have hFc := va_free (wc := [(g, .inr (3, [.ref rv, .ref rk, .ref pt, .ref sp])), (rv, .inr (1, [.ref av, .int (nI nv)])), (av, .inl (kv, 100, .inl fv)), (rk, .inr (1, [.ref ak, .int (nI nk)])), (ak, .inl (kk, 100, .inl fk)), (pt, .inr (0, [.ref ap, .int (nI np)])), (ap, .inl (kp, 100, .inl fp)), (sp, .inr (2, [.ref a1, .ref a2, .int (nI 0)])), (a1, .inl (k1, 100, .inl f1)), (a2, .inl (k2, 100, .inl f2))]) hD hS hA [0, 1, 2, 3, 4, 5, 6, 7, 8, 9] rfl
        refine va_calli (va_runV (As := [.int (mm), .int (cp)]) (rest := []) ⟨hx, hb, hml, hown, hw⟩ (c_matches l dC dI H.size g rv rk pt sp av ak ap a1 a2 kv kk kp k1 k2 fv fk fp f1 f2 nv nk np hv hk hp mm cp zm.1 zm.2) (cwV 2 hw (gV mw113 mw115 mw1 mw16 mw116) rfl rfl rfl (by decide +kernel) ⟨Nat.le_of_ble_eq_true rfl, Nat.le_of_ble_eq_true rfl⟩) (wr.V (q0 := 0) (ci := 3) hN hKc hPc hDc rfl rfl) rfl rfl hl.1 rfl (lv_room (Nat.le_of_ble_eq_true rfl)) dX3_match_29 ⟨Nat.le_of_ble_eq_true rfl, Nat.le_of_ble_eq_true rfl⟩) hS (fun q _ h => hFc q h) hFc (fun r6 ur6 t H1 locs ht hvm hr6 hB hz1 hk1 hS => ?_)
        obtain ⟨w, p1, s1, s2, n2⟩ := ur6
        obtain ⟨hp1, hs1, hmr⟩ := hr6
        dsimp only at hp1 hs1 hmr
        obtain ⟨hP1, hD1⟩ := hB
        rw [ht] at hP1
        obtain ⟨hP, hD⟩ := va_join (wr := []) (w1 := [(g, .inr (3, [.ref rv, .ref rk, .ref pt, .ref sp])), (rv, .inr (1, [.ref av, .int (nI nv)])), (av, .inl (kv, 100, .inl fv)), (rk, .inr (1, [.ref ak, .int (nI nk)])), (ak, .inl (kk, 100, .inl fk)), (pt, .inr (0, [.ref ap, .int (nI p1)])), (ap, .inl (kp, 100, .inl w)), (sp, .inr (2, [.ref a1, .ref a2, .int (nI n2)])), (a1, .inl (k1, 100, .inl s1)), (a2, .inl (k2, 100, .inl s2))]) hP hD [0, 1, 2, 3, 4, 5, 6, 7, 8, 9] [] rfl rfl (by decide) (by decide) hk1 hFc hP1 hD1
        generalize H1 = H at hP hS ⊢
        have hP : va_P (dC, dI) cl5 [(g, .inr (3, [.ref rv, .ref rk, .ref pt, .ref sp])), (rv, .inr (1, [.ref av, .int (nI nv)])), (av, .inl (kv, 100, .inl fv)), (rk, .inr (1, [.ref ak, .int (nI nk)])), (ak, .inl (kk, 100, .inl fk)), (pt, .inr (0, [.ref ap, .int (nI p1)])), (ap, .inl (kp, 100, .inl w)), (sp, .inr (2, [.ref a1, .ref a2, .int (nI n2)])), (a1, .inl (k1, 100, .inl s1)), (a2, .inl (k2, 100, .inl s2))] H := hP.sub [0, 1, 2, 3, 4, 5, 6, 7, 8, 9] rfl
        have hD : va_D A [(g, .inr (3, [.ref rv, .ref rk, .ref pt, .ref sp])), (rv, .inr (1, [.ref av, .int (nI nv)])), (av, .inl (kv, 100, .inl fv)), (rk, .inr (1, [.ref ak, .int (nI nk)])), (ak, .inl (kk, 100, .inl fk)), (pt, .inr (0, [.ref ap, .int (nI p1)])), (ap, .inl (kp, 100, .inl w)), (sp, .inr (2, [.ref a1, .ref a2, .int (nI n2)])), (a1, .inl (k1, 100, .inl s1)), (a2, .inl (k2, 100, .inl s2))] := hD.sub [0, 1, 2, 3, 4, 5, 6, 7, 8, 9] (by decide) rfl
        refine lv_if_eq (tgt := 37) hx hb dX3_match_32 (by decide) (fun c32_6 => ?_) (fun c32_6 => ?_)
        · skip
          have z5 := c32_6
          refine lv_aload_n hx hb dX3_match_37 rfl (lv_at hl 0 rfl) ?_
          refine va_get (D := (dC, dI)) (ci := 3) (v := .ref sp) (C := RX3) (T := TX3) (N := 4) hx hb hw inX3 hown hK hP 0 rfl rfl 3 (by decide) (hw _ mw80) (fun _ h9 => h9) rfl dX3_match_38 ?_
          refine lv_iconst (v := 0) hx hb dX3_match_41 (by decide) ?_
          refine lv_topi (fun x8 ex8 => ?_)
          obtain rfl : x8 = nI 0 := by rw [ex8]; exact nI_0.symm
          refine va_putN (D := (dC, dI)) (ci := 2) (v := .int (nI 0)) (ty := .int) (C := RX2) (T := TX2) (N := 3) hx hb hw inX2 tyX2 tyX2_ok nmX2 hown hK hP hD hS 7 rfl rfl 2 (by decide) (va_Nw.use rfl hN.2.2.2.2.2.2) (fun _ h9 => h9) rfl (by decide +kernel) rfl rfl (Nat.le_of_ble_eq_true rfl) dX3_match_42 (fun H locs hP hD hS => ?_)
          have hP : va_P (dC, dI) cl5 [(g, .inr (3, [.ref rv, .ref rk, .ref pt, .ref sp])), (rv, .inr (1, [.ref av, .int (nI nv)])), (av, .inl (kv, 100, .inl fv)), (rk, .inr (1, [.ref ak, .int (nI nk)])), (ak, .inl (kk, 100, .inl fk)), (pt, .inr (0, [.ref ap, .int (nI p1)])), (ap, .inl (kp, 100, .inl w)), (sp, .inr (2, [.ref a1, .ref a2, .int (nI 0)])), (a1, .inl (k1, 100, .inl s1)), (a2, .inl (k2, 100, .inl s2))] H := hP
          have hD : va_D A [(g, .inr (3, [.ref rv, .ref rk, .ref pt, .ref sp])), (rv, .inr (1, [.ref av, .int (nI nv)])), (av, .inl (kv, 100, .inl fv)), (rk, .inr (1, [.ref ak, .int (nI nk)])), (ak, .inl (kk, 100, .inl fk)), (pt, .inr (0, [.ref ap, .int (nI p1)])), (ap, .inl (kp, 100, .inl w)), (sp, .inr (2, [.ref a1, .ref a2, .int (nI 0)])), (a1, .inl (k1, 100, .inl s1)), (a2, .inl (k2, 100, .inl s2))] := hD
          refine lv_iconst (v := 0) hx hb dX3_match_45 (by decide) ?_
          subst hQ
          exact W.iret (v := 0) hx hb hr (fun t ht hW => ⟨⟨_, (w, p1, s1, s2, 0), rfl, ⟨hp1, Nat.zero_le _, Or.inl ⟨zo, Or.inr ⟨rfl, hmr.elim (fun h => absurd (h.1.symm.trans z5) (by decide)) (fun h => h.2), rfl⟩⟩⟩, by rw [ht]; exact hP, hD⟩, hS.F ht⟩) hS.2.2 dX3_match_46
        · skip
          have z5 := c32_6
          refine lv_iconst (v := 1) hx hb dX3_match_35 (by decide) ?_
          subst hQ
          exact W.iret (v := 1) hx hb hr (fun t ht hW => ⟨⟨_, (w, p1, s1, s2, n2), rfl, ⟨hp1, hs1, Or.inl ⟨zo, Or.inl (hmr.elim (fun h => ⟨rfl, h.2⟩) (fun h => absurd h.1 z5))⟩⟩, by rw [ht]; exact hP, hD⟩, hS.F ht⟩) hS.2.2 dX3_match_36
      · skip
        have q1 : ¬ (0 ≤ cp.toInt ∧ cp.toInt ≤ 2) := fun q => absurd (by first | exact c13_3 | exact Decidable.not_not.mp c13_3) (by rw [if_pos q]; decide)
        have zo : ¬ mOk mm cp := fun q => q1 ⟨q.2.2.1, q.2.2.2⟩
        refine lv_iconst (v := -1) hx hb dX3_match_16 (by decide) ?_
        subst hQ
        exact W.iret (v := (-1)) hx hb hr (fun t ht hW => ⟨⟨_, (fp, np, f1, f2, ns), rfl, ⟨hp, hs, Or.inr ⟨zo, rfl, rfl, rfl, rfl⟩⟩, by rw [ht]; exact hP, hD⟩, hS.F ht⟩) hS.2.2 dX3_match_17

abbrev rm_c_put : Room := { frames := 1, cells := 0, slots := 0, locals := 24 }
set_option maxHeartbeats 4000000 in
set_option maxRecDepth 100000 in
theorem c_put (l : Launch) (dC : Nat → ClassId) (dI : Nat → Nat → Nat) (sz : Nat) (g rv rk pt sp av ak ap a1 a2 : Nat) (kv kk kp k1 k2 : ClassId) (fv fk fp f1 f2 : Nat → Int32) (nv nk np ns : Nat) (hv : nv ≤ 100) (hk : nk ≤ 100) (hp : np ≤ 100) (hs : ns ≤ 100) (w : Int32) (v : Int64) (ct : Int32) : Met l yX3_put (.code yX3_put cX3_put 6 (some (.boolean)) :: wsA) rm_c_put (va_Pc [.ref g, .int (w), .long (v), .int (ct)] (wr (dC, dI) [(g, .inr (3, [.ref rv, .ref rk, .ref pt, .ref sp])), (rv, .inr (1, [.ref av, .int (nI nv)])), (av, .inl (kv, 100, .inl fv)), (rk, .inr (1, [.ref ak, .int (nI nk)])), (ak, .inl (kk, 100, .inl fk)), (pt, .inr (0, [.ref ap, .int (nI np)])), (ap, .inl (kp, 100, .inl fp)), (sp, .inr (2, [.ref a1, .ref a2, .int (nI ns)])), (a1, .inl (k1, 100, .inl f1)), (a2, .inl (k2, 100, .inl f2))] [(kv, .int), (kk, .int), (kp, .int), (k1, .int), (k2, .int)] sz)) (va_Qi (fun (r : Int32) (u : ((Nat → Int32) × Nat) × ((Nat → Int32) × Nat)) => r = (if w = 0 then apR nv ct else if w = 1 then apR nk ct else 0) ∧ u = (if w = 0 then (apF fv nv v ct, (fk, nk)) else if w = 1 then ((fv, nv), apF fk nk v ct) else ((fv, nv), (fk, nk)))) (wB (dC, dI) (va_A [(g, .inr (3, [.ref rv, .ref rk, .ref pt, .ref sp])), (rv, .inr (1, [.ref av, .int (nI nv)])), (av, .inl (kv, 100, .inl fv)), (rk, .inr (1, [.ref ak, .int (nI nk)])), (ak, .inl (kk, 100, .inl fk)), (pt, .inr (0, [.ref ap, .int (nI np)])), (ap, .inl (kp, 100, .inl fp)), (sp, .inr (2, [.ref a1, .ref a2, .int (nI ns)])), (a1, .inl (k1, 100, .inl f1)), (a2, .inl (k2, 100, .inl f2))] sz) (fun u : ((Nat → Int32) × Nat) × ((Nat → Int32) × Nat) => [(g, .inr (3, [.ref rv, .ref rk, .ref pt, .ref sp])), (rv, .inr (1, [.ref av, .int (nI u.1.2)])), (av, .inl (kv, 100, .inl (u.1.1))), (rk, .inr (1, [.ref ak, .int (nI u.2.2)])), (ak, .inl (kk, 100, .inl (u.2.1))), (pt, .inr (0, [.ref ap, .int (nI np)])), (ap, .inl (kp, 100, .inl fp)), (sp, .inr (2, [.ref a1, .ref a2, .int (nI ns)])), (a1, .inl (k1, 100, .inl f1)), (a2, .inl (k2, 100, .inl f2))])) (va_A [(g, .inr (3, [.ref rv, .ref rk, .ref pt, .ref sp])), (rv, .inr (1, [.ref av, .int (nI nv)])), (av, .inl (kv, 100, .inl fv)), (rk, .inr (1, [.ref ak, .int (nI nk)])), (ak, .inl (kk, 100, .inl fk)), (pt, .inr (0, [.ref ap, .int (nI np)])), (ap, .inl (kp, 100, .inl fp)), (sp, .inr (2, [.ref a1, .ref a2, .int (nI ns)])), (a1, .inl (k1, 100, .inl f1)), (a2, .inl (k2, 100, .inl f2))] sz)) 0 0 (va_A [(g, .inr (3, [.ref rv, .ref rk, .ref pt, .ref sp])), (rv, .inr (1, [.ref av, .int (nI nv)])), (av, .inl (kv, 100, .inl fv)), (rk, .inr (1, [.ref ak, .int (nI nk)])), (ak, .inl (kk, 100, .inl fk)), (pt, .inr (0, [.ref ap, .int (nI np)])), (ap, .inl (kp, 100, .inl fp)), (sp, .inr (2, [.ref a1, .ref a2, .int (nI ns)])), (a1, .inl (k1, 100, .inl f1)), (a2, .inl (k2, 100, .inl f2))] sz) := by
  refine Met.ofW (cc := cX3_put) (maxL := 6) (ret := (some (.boolean))) (by decide) rfl ?_
  intro p e s m args below meth c s₁ B hml hv
  obtain ⟨hargs, hsz, hN, hP, hK, hD0⟩ := hv
  have hx := B.exec
  have hb := B.bytes
  have hr := B.returns
  have hw : ∀ w ∈ wsA, w.before args s = true := fun w h => atoms_spec (ws := (.code yX3_put cX3_put 6 (some (.boolean)) :: wsA)) B.pre w (List.mem_cons_of_mem _ h)
  have hown : s.vm.findClass "GlobDesk" = some m.cls := findClass_of_methodNamed B.named
  have hlocks := B.notSynchronized
  subst hsz
  have hD := hD0.self (sz := s.heap.size)
  generalize hAe : va_A [(g, .inr (3, [.ref rv, .ref rk, .ref pt, .ref sp])), (rv, .inr (1, [.ref av, .int (nI nv)])), (av, .inl (kv, 100, .inl fv)), (rk, .inr (1, [.ref ak, .int (nI nk)])), (ak, .inl (kk, 100, .inl fk)), (pt, .inr (0, [.ref ap, .int (nI np)])), (ap, .inl (kp, 100, .inl fp)), (sp, .inr (2, [.ref a1, .ref a2, .int (nI ns)])), (a1, .inl (k1, 100, .inl f1)), (a2, .inl (k2, 100, .inl f2))] s.heap.size = A at hD ⊢
  have hA : ∀ q : Nat, s.heap.size ≤ q → A q := fun q h => by rw [← hAe]; exact Or.inr h
  have hS : va_S A s.heap s.heap [] := va_S.rf
  generalize hQ : MQ below _ args s _ _ _ = Q
  change W p l e rm_c_put s m args below meth c s.heap [] 0 0 Q (entryFrame m args 6)
  have hl := lv_entry ([.ref g, .int (w), .long (v), .int (ct)]) (n := 6) (Nat.le_of_ble_eq_true rfl)
  rw [show entryFrame m args 6 = entryFrame m ([.ref g, .int (w), .long (v), .int (ct)] : List Value).toArray 6 from by rw [hargs], lg_entry_eq]
  generalize (lg_sl ([.ref g, .int (w), .long (v), .int (ct)]) ++ List.replicate (6 - (lg_sl ([.ref g, .int (w), .long (v), .int (ct)])).length) Slot.unset).toArray = ls at hl ⊢
  have hl : lv_has ls 6 [(0, .ref g), (1, .int (w)), (2, .long (v)), (4, .int (ct))] := hl
  refine lv_aload_n hx hb dX3_put_0 rfl (lv_at hl 0 rfl) ?_
  refine lv_iload_n hx hb dX3_put_1 rfl (lv_at hl 1 rfl) ?_
  refine va_csq (va_Run.run (va_runV (As := [.int (w)]) (rest := []) ⟨hx, hb, hml, hown, hw⟩ (c_rowOf l dC dI g rv rk pt sp av ak ap a1 a2 kv kk kp k1 k2 fv fk fp f1 f2 nv nk np ns hv hk hp hs (w)) (cwV 1 hw (gV mw94 mw96 mw0 mw16 mw97) rfl rfl rfl (by decide +kernel) ⟨Nat.le_of_ble_eq_true rfl, Nat.le_of_ble_eq_true rfl⟩) (ro.V (q0 := 0) (ci := 3) hN (hK.sub (tys' := [(kv, .int), (kk, .int), (kp, .int), (k1, .int), (k2, .int)]) [0, 1, 2, 3, 4] rfl) (hP.sub (ws' := [(g, .inr (3, [.ref rv, .ref rk, .ref pt, .ref sp])), (rv, .inr (1, [.ref av, .int (nI nv)])), (av, .inl (kv, 100, .inl fv)), (rk, .inr (1, [.ref ak, .int (nI nk)])), (ak, .inl (kk, 100, .inl fk)), (pt, .inr (0, [.ref ap, .int (nI np)])), (ap, .inl (kp, 100, .inl fp)), (sp, .inr (2, [.ref a1, .ref a2, .int (nI ns)])), (a1, .inl (k1, 100, .inl f1)), (a2, .inl (k2, 100, .inl f2))]) [0, 1, 2, 3, 4, 5, 6, 7, 8, 9] rfl) rfl rfl) rfl rfl hl.1 rfl (lv_room (Nat.le_of_ble_eq_true rfl)) dX3_put_2 ⟨Nat.le_of_ble_eq_true rfl, Nat.le_of_ble_eq_true rfl⟩)) (fun r1 hr1 => ?_)
  by_cases w0 : w = 0
  · skip
    obtain rfl : r1 = some rv := by rw [hr1, if_pos w0]
    refine lv_astore (lv' := [(5, .ref rv), (0, .ref g), (1, .int (w)), (2, .long (v)), (4, .int (ct))]) hx hb dX3_put_5 hl (by decide) rfl (fun ls hl => ?_)
    refine lv_aload hx hb dX3_put_7 (lv_at hl 0 rfl) ?_
    refine lv_ifnull hx hb dX3_put_9 ?_
    refine lv_aload hx hb dX3_put_12 (lv_at hl 0 rfl) ?_
    refine lv_lload_n hx hb dX3_put_14 rfl (lv_at hl 3 rfl) ?_
    refine lv_iload hx hb dX3_put_15 (lv_at hl 4 rfl) ?_
    have hPc := hP.sub (ws' := [(rv, .inr (1, [.ref av, .int (nI nv)])), (av, .inl (kv, 100, .inl fv))]) [1, 2] rfl
    have hDc := hD.sub (ws' := [(rv, .inr (1, [.ref av, .int (nI nv)])), (av, .inl (kv, 100, .inl fv))]) [1, 2] (by decide) rfl
    have hKc := hK.sub (tys' := [(kv, .int)]) [0] rfl
    have hFc := va_free (wc := [(rv, .inr (1, [.ref av, .int (nI nv)])), (av, .inl (kv, 100, .inl fv))]) hD hS hA [1, 2] rfl
    refine va_calli (va_runV (As := [.long (v), .int (ct)]) (rest := []) ⟨hx, hb, hml, hown, hw⟩ (c_Row_append l dC dI s.heap.size rv av kv fv nv hv v ct) (cwV 2 hw (gV mw98 mw99 mw100 mw17 mw101) rfl rfl rfl (by decide +kernel) ⟨Nat.le_of_ble_eq_true rfl, Nat.le_of_ble_eq_true rfl⟩) (wr.V (q0 := 0) (ci := 1) hN hKc hPc hDc rfl rfl) rfl rfl hl.1 rfl (lv_room (Nat.le_of_ble_eq_true rfl)) dX3_put_17 ⟨Nat.le_of_ble_eq_true rfl, Nat.le_of_ble_eq_true rfl⟩) hS (fun q _ h => hFc q h) hFc (fun r2 ur2 t H1 locs ht hvm hr2 hB hz1 hk1 hS => ?_)
    obtain ⟨rfl, rfl⟩ := hr2
    obtain ⟨hP1, hD1⟩ := hB
    rw [ht] at hP1
    obtain ⟨hP, hD⟩ := va_join (wr := [(g, .inr (3, [.ref rv, .ref rk, .ref pt, .ref sp])), (rk, .inr (1, [.ref ak, .int (nI nk)])), (ak, .inl (kk, 100, .inl fk)), (pt, .inr (0, [.ref ap, .int (nI np)])), (ap, .inl (kp, 100, .inl fp)), (sp, .inr (2, [.ref a1, .ref a2, .int (nI ns)])), (a1, .inl (k1, 100, .inl f1)), (a2, .inl (k2, 100, .inl f2))]) (w1 := [(rv, .inr (1, [.ref av, .int (nI (apF fv nv v ct).2)])), (av, .inl (kv, 100, .inl ((apF fv nv v ct).1)))]) hP hD [1, 2] [0, 3, 4, 5, 6, 7, 8, 9] rfl rfl (by decide) (by decide) hk1 hFc hP1 hD1
    generalize H1 = H at hP hS ⊢
    have hP : va_P (dC, dI) cl5 [(g, .inr (3, [.ref rv, .ref rk, .ref pt, .ref sp])), (rv, .inr (1, [.ref av, .int (nI (apF fv nv v ct).2)])), (av, .inl (kv, 100, .inl ((apF fv nv v ct).1))), (rk, .inr (1, [.ref ak, .int (nI nk)])), (ak, .inl (kk, 100, .inl fk)), (pt, .inr (0, [.ref ap, .int (nI np)])), (ap, .inl (kp, 100, .inl fp)), (sp, .inr (2, [.ref a1, .ref a2, .int (nI ns)])), (a1, .inl (k1, 100, .inl f1)), (a2, .inl (k2, 100, .inl f2))] H := hP.sub [0, 8, 9, 1, 2, 3, 4, 5, 6, 7] rfl
    have hD : va_D A [(g, .inr (3, [.ref rv, .ref rk, .ref pt, .ref sp])), (rv, .inr (1, [.ref av, .int (nI (apF fv nv v ct).2)])), (av, .inl (kv, 100, .inl ((apF fv nv v ct).1))), (rk, .inr (1, [.ref ak, .int (nI nk)])), (ak, .inl (kk, 100, .inl fk)), (pt, .inr (0, [.ref ap, .int (nI np)])), (ap, .inl (kp, 100, .inl fp)), (sp, .inr (2, [.ref a1, .ref a2, .int (nI ns)])), (a1, .inl (k1, 100, .inl f1)), (a2, .inl (k2, 100, .inl f2))] := hD.sub [0, 8, 9, 1, 2, 3, 4, 5, 6, 7] (by decide) rfl
    refine lv_if_eq (tgt := 27) hx hb dX3_put_20 (by decide) (fun c20_2 => ?_) (fun c20_2 => ?_)
    · skip
      have z5 := c20_2
      refine lv_iconst (v := 0) hx hb dX3_put_27 (by decide) ?_
      subst hQ
      exact W.zret (v := 0) hx hb hr (by decide) (fun t ht hW => ⟨⟨_, (apF fv nv v ct, (fk, nk)), rfl, ⟨by rw [if_pos w0]; exact z5.symm, by rw [if_pos w0]⟩, by rw [ht]; exact hP, hD⟩, hS.F ht⟩) hS.2.2 dX3_put_28
    · skip
      have z5 := c20_2
      refine lv_iconst (v := 1) hx hb dX3_put_23 (by decide) ?_
      refine lv_goto (tgt := 28) hx hb dX3_put_24 (by decide) ?_
      subst hQ
      exact W.zret (v := 1) hx hb hr (by decide) (fun t ht hW => ⟨⟨_, (apF fv nv v ct, (fk, nk)), rfl, ⟨by rw [if_pos w0]; exact (apR_1 z5).symm, by rw [if_pos w0]⟩, by rw [ht]; exact hP, hD⟩, hS.F ht⟩) hS.2.2 dX3_put_28
  · skip
    by_cases w1 : w = 1
    · skip
      obtain rfl : r1 = some rk := by rw [hr1, if_neg w0, if_pos w1]
      refine lv_astore (lv' := [(5, .ref rk), (0, .ref g), (1, .int (w)), (2, .long (v)), (4, .int (ct))]) hx hb dX3_put_5 hl (by decide) rfl (fun ls hl => ?_)
      refine lv_aload hx hb dX3_put_7 (lv_at hl 0 rfl) ?_
      refine lv_ifnull hx hb dX3_put_9 ?_
      refine lv_aload hx hb dX3_put_12 (lv_at hl 0 rfl) ?_
      refine lv_lload_n hx hb dX3_put_14 rfl (lv_at hl 3 rfl) ?_
      refine lv_iload hx hb dX3_put_15 (lv_at hl 4 rfl) ?_
      have hPc := hP.sub (ws' := [(rk, .inr (1, [.ref ak, .int (nI nk)])), (ak, .inl (kk, 100, .inl fk))]) [3, 4] rfl
      have hDc := hD.sub (ws' := [(rk, .inr (1, [.ref ak, .int (nI nk)])), (ak, .inl (kk, 100, .inl fk))]) [3, 4] (by decide) rfl
      have hKc := hK.sub (tys' := [(kk, .int)]) [1] rfl
      have hFc := va_free (wc := [(rk, .inr (1, [.ref ak, .int (nI nk)])), (ak, .inl (kk, 100, .inl fk))]) hD hS hA [3, 4] rfl
      refine va_calli (va_runV (As := [.long (v), .int (ct)]) (rest := []) ⟨hx, hb, hml, hown, hw⟩ (c_Row_append l dC dI s.heap.size rk ak kk fk nk hk v ct) (cwV 2 hw (gV mw98 mw99 mw100 mw17 mw101) rfl rfl rfl (by decide +kernel) ⟨Nat.le_of_ble_eq_true rfl, Nat.le_of_ble_eq_true rfl⟩) (wr.V (q0 := 0) (ci := 1) hN hKc hPc hDc rfl rfl) rfl rfl hl.1 rfl (lv_room (Nat.le_of_ble_eq_true rfl)) dX3_put_17 ⟨Nat.le_of_ble_eq_true rfl, Nat.le_of_ble_eq_true rfl⟩) hS (fun q _ h => hFc q h) hFc (fun r4 ur4 t H1 locs ht hvm hr4 hB hz1 hk1 hS => ?_)
      obtain ⟨rfl, rfl⟩ := hr4
      obtain ⟨hP1, hD1⟩ := hB
      rw [ht] at hP1
      obtain ⟨hP, hD⟩ := va_join (wr := [(g, .inr (3, [.ref rv, .ref rk, .ref pt, .ref sp])), (rv, .inr (1, [.ref av, .int (nI nv)])), (av, .inl (kv, 100, .inl fv)), (pt, .inr (0, [.ref ap, .int (nI np)])), (ap, .inl (kp, 100, .inl fp)), (sp, .inr (2, [.ref a1, .ref a2, .int (nI ns)])), (a1, .inl (k1, 100, .inl f1)), (a2, .inl (k2, 100, .inl f2))]) (w1 := [(rk, .inr (1, [.ref ak, .int (nI (apF fk nk v ct).2)])), (ak, .inl (kk, 100, .inl ((apF fk nk v ct).1)))]) hP hD [3, 4] [0, 1, 2, 5, 6, 7, 8, 9] rfl rfl (by decide) (by decide) hk1 hFc hP1 hD1
      generalize H1 = H at hP hS ⊢
      have hP : va_P (dC, dI) cl5 [(g, .inr (3, [.ref rv, .ref rk, .ref pt, .ref sp])), (rv, .inr (1, [.ref av, .int (nI nv)])), (av, .inl (kv, 100, .inl fv)), (rk, .inr (1, [.ref ak, .int (nI (apF fk nk v ct).2)])), (ak, .inl (kk, 100, .inl ((apF fk nk v ct).1))), (pt, .inr (0, [.ref ap, .int (nI np)])), (ap, .inl (kp, 100, .inl fp)), (sp, .inr (2, [.ref a1, .ref a2, .int (nI ns)])), (a1, .inl (k1, 100, .inl f1)), (a2, .inl (k2, 100, .inl f2))] H := hP.sub [0, 1, 2, 8, 9, 3, 4, 5, 6, 7] rfl
      have hD : va_D A [(g, .inr (3, [.ref rv, .ref rk, .ref pt, .ref sp])), (rv, .inr (1, [.ref av, .int (nI nv)])), (av, .inl (kv, 100, .inl fv)), (rk, .inr (1, [.ref ak, .int (nI (apF fk nk v ct).2)])), (ak, .inl (kk, 100, .inl ((apF fk nk v ct).1))), (pt, .inr (0, [.ref ap, .int (nI np)])), (ap, .inl (kp, 100, .inl fp)), (sp, .inr (2, [.ref a1, .ref a2, .int (nI ns)])), (a1, .inl (k1, 100, .inl f1)), (a2, .inl (k2, 100, .inl f2))] := hD.sub [0, 1, 2, 8, 9, 3, 4, 5, 6, 7] (by decide) rfl
      refine lv_if_eq (tgt := 27) hx hb dX3_put_20 (by decide) (fun c20_4 => ?_) (fun c20_4 => ?_)
      · skip
        have z5 := c20_4
        refine lv_iconst (v := 0) hx hb dX3_put_27 (by decide) ?_
        subst hQ
        exact W.zret (v := 0) hx hb hr (by decide) (fun t ht hW => ⟨⟨_, ((fv, nv), apF fk nk v ct), rfl, ⟨by rw [if_neg w0, if_pos w1]; exact z5.symm, by rw [if_neg w0, if_pos w1]⟩, by rw [ht]; exact hP, hD⟩, hS.F ht⟩) hS.2.2 dX3_put_28
      · skip
        have z5 := c20_4
        refine lv_iconst (v := 1) hx hb dX3_put_23 (by decide) ?_
        refine lv_goto (tgt := 28) hx hb dX3_put_24 (by decide) ?_
        subst hQ
        exact W.zret (v := 1) hx hb hr (by decide) (fun t ht hW => ⟨⟨_, ((fv, nv), apF fk nk v ct), rfl, ⟨by rw [if_neg w0, if_pos w1]; exact (apR_1 z5).symm, by rw [if_neg w0, if_pos w1]⟩, by rw [ht]; exact hP, hD⟩, hS.F ht⟩) hS.2.2 dX3_put_28
    · skip
      obtain rfl : r1 = none := by rw [hr1, if_neg w0, if_neg w1]
      refine lv_astoreN (lv' := [(5, .null), (0, .ref g), (1, .int (w)), (2, .long (v)), (4, .int (ct))]) hx hb dX3_put_5 hl (by decide) rfl (fun ls hl => ?_)
      refine lv_aloadN hx hb dX3_put_7 (lv_at hl 0 rfl) ?_
      refine lv_ifnullN (tgt := 27) hx hb dX3_put_9 (by decide) ?_
      refine lv_iconst (v := 0) hx hb dX3_put_27 (by decide) ?_
      subst hQ
      exact W.zret (v := 0) hx hb hr (by decide) (fun t ht hW => ⟨⟨_, ((fv, nv), (fk, nk)), rfl, ⟨by rw [if_neg w0, if_neg w1], by rw [if_neg w0, if_neg w1]⟩, by rw [ht]; exact hP, hD⟩, hS.F ht⟩) hS.2.2 dX3_put_28

abbrev rm_c_clear : Room := { frames := 1, cells := 0, slots := 0, locals := 21 }
set_option maxHeartbeats 4000000 in
set_option maxRecDepth 100000 in
theorem c_clear (l : Launch) (dC : Nat → ClassId) (dI : Nat → Nat → Nat) (sz : Nat) (g rv rk pt sp av ak ap a1 a2 : Nat) (kv kk kp k1 k2 : ClassId) (fv fk fp f1 f2 : Nat → Int32) (nv nk np ns : Nat) (hv : nv ≤ 100) (hk : nk ≤ 100) (hp : np ≤ 100) (hs : ns ≤ 100) (w : Int32) : Met l yX3_clear (.code yX3_clear cX3_clear 4 (some (.int)) :: wsA) rm_c_clear (va_Pc [.ref g, .int (w)] (wr (dC, dI) [(g, .inr (3, [.ref rv, .ref rk, .ref pt, .ref sp])), (rv, .inr (1, [.ref av, .int (nI nv)])), (av, .inl (kv, 100, .inl fv)), (rk, .inr (1, [.ref ak, .int (nI nk)])), (ak, .inl (kk, 100, .inl fk)), (pt, .inr (0, [.ref ap, .int (nI np)])), (ap, .inl (kp, 100, .inl fp)), (sp, .inr (2, [.ref a1, .ref a2, .int (nI ns)])), (a1, .inl (k1, 100, .inl f1)), (a2, .inl (k2, 100, .inl f2))] [(kv, .int), (kk, .int), (kp, .int), (k1, .int), (k2, .int)] sz)) (va_Qi (fun (r : Int32) (u : Nat × Nat) => r = (if w = 0 then nI nv else if w = 1 then nI nk else -1) ∧ u = (if w = 0 then (0, nk) else if w = 1 then (nv, 0) else (nv, nk))) (wB (dC, dI) (va_A [(g, .inr (3, [.ref rv, .ref rk, .ref pt, .ref sp])), (rv, .inr (1, [.ref av, .int (nI nv)])), (av, .inl (kv, 100, .inl fv)), (rk, .inr (1, [.ref ak, .int (nI nk)])), (ak, .inl (kk, 100, .inl fk)), (pt, .inr (0, [.ref ap, .int (nI np)])), (ap, .inl (kp, 100, .inl fp)), (sp, .inr (2, [.ref a1, .ref a2, .int (nI ns)])), (a1, .inl (k1, 100, .inl f1)), (a2, .inl (k2, 100, .inl f2))] sz) (fun u : Nat × Nat => [(g, .inr (3, [.ref rv, .ref rk, .ref pt, .ref sp])), (rv, .inr (1, [.ref av, .int (nI u.1)])), (av, .inl (kv, 100, .inl fv)), (rk, .inr (1, [.ref ak, .int (nI u.2)])), (ak, .inl (kk, 100, .inl fk)), (pt, .inr (0, [.ref ap, .int (nI np)])), (ap, .inl (kp, 100, .inl fp)), (sp, .inr (2, [.ref a1, .ref a2, .int (nI ns)])), (a1, .inl (k1, 100, .inl f1)), (a2, .inl (k2, 100, .inl f2))])) (va_A [(g, .inr (3, [.ref rv, .ref rk, .ref pt, .ref sp])), (rv, .inr (1, [.ref av, .int (nI nv)])), (av, .inl (kv, 100, .inl fv)), (rk, .inr (1, [.ref ak, .int (nI nk)])), (ak, .inl (kk, 100, .inl fk)), (pt, .inr (0, [.ref ap, .int (nI np)])), (ap, .inl (kp, 100, .inl fp)), (sp, .inr (2, [.ref a1, .ref a2, .int (nI ns)])), (a1, .inl (k1, 100, .inl f1)), (a2, .inl (k2, 100, .inl f2))] sz)) 0 0 (va_A [(g, .inr (3, [.ref rv, .ref rk, .ref pt, .ref sp])), (rv, .inr (1, [.ref av, .int (nI nv)])), (av, .inl (kv, 100, .inl fv)), (rk, .inr (1, [.ref ak, .int (nI nk)])), (ak, .inl (kk, 100, .inl fk)), (pt, .inr (0, [.ref ap, .int (nI np)])), (ap, .inl (kp, 100, .inl fp)), (sp, .inr (2, [.ref a1, .ref a2, .int (nI ns)])), (a1, .inl (k1, 100, .inl f1)), (a2, .inl (k2, 100, .inl f2))] sz) := by
  refine Met.ofW (cc := cX3_clear) (maxL := 4) (ret := (some (.int))) (by decide) rfl ?_
  intro p e s m args below meth c s₁ B hml hv
  obtain ⟨hargs, hsz, hN, hP, hK, hD0⟩ := hv
  have hx := B.exec
  have hb := B.bytes
  have hr := B.returns
  have hw : ∀ w ∈ wsA, w.before args s = true := fun w h => atoms_spec (ws := (.code yX3_clear cX3_clear 4 (some (.int)) :: wsA)) B.pre w (List.mem_cons_of_mem _ h)
  have hown : s.vm.findClass "GlobDesk" = some m.cls := findClass_of_methodNamed B.named
  have hlocks := B.notSynchronized
  subst hsz
  have hD := hD0.self (sz := s.heap.size)
  generalize hAe : va_A [(g, .inr (3, [.ref rv, .ref rk, .ref pt, .ref sp])), (rv, .inr (1, [.ref av, .int (nI nv)])), (av, .inl (kv, 100, .inl fv)), (rk, .inr (1, [.ref ak, .int (nI nk)])), (ak, .inl (kk, 100, .inl fk)), (pt, .inr (0, [.ref ap, .int (nI np)])), (ap, .inl (kp, 100, .inl fp)), (sp, .inr (2, [.ref a1, .ref a2, .int (nI ns)])), (a1, .inl (k1, 100, .inl f1)), (a2, .inl (k2, 100, .inl f2))] s.heap.size = A at hD ⊢
  have hA : ∀ q : Nat, s.heap.size ≤ q → A q := fun q h => by rw [← hAe]; exact Or.inr h
  have hS : va_S A s.heap s.heap [] := va_S.rf
  generalize hQ : MQ below _ args s _ _ _ = Q
  change W p l e rm_c_clear s m args below meth c s.heap [] 0 0 Q (entryFrame m args 4)
  have hl := lv_entry ([.ref g, .int (w)]) (n := 4) (Nat.le_of_ble_eq_true rfl)
  rw [show entryFrame m args 4 = entryFrame m ([.ref g, .int (w)] : List Value).toArray 4 from by rw [hargs], lg_entry_eq]
  generalize (lg_sl ([.ref g, .int (w)]) ++ List.replicate (4 - (lg_sl ([.ref g, .int (w)])).length) Slot.unset).toArray = ls at hl ⊢
  have hl : lv_has ls 4 [(0, .ref g), (1, .int (w))] := hl
  refine lv_aload_n hx hb dX3_clear_0 rfl (lv_at hl 0 rfl) ?_
  refine lv_iload_n hx hb dX3_clear_1 rfl (lv_at hl 1 rfl) ?_
  refine va_csq (va_Run.run (va_runV (As := [.int (w)]) (rest := []) ⟨hx, hb, hml, hown, hw⟩ (c_rowOf l dC dI g rv rk pt sp av ak ap a1 a2 kv kk kp k1 k2 fv fk fp f1 f2 nv nk np ns hv hk hp hs (w)) (cwV 1 hw (gV mw94 mw96 mw0 mw16 mw97) rfl rfl rfl (by decide +kernel) ⟨Nat.le_of_ble_eq_true rfl, Nat.le_of_ble_eq_true rfl⟩) (ro.V (q0 := 0) (ci := 3) hN (hK.sub (tys' := [(kv, .int), (kk, .int), (kp, .int), (k1, .int), (k2, .int)]) [0, 1, 2, 3, 4] rfl) (hP.sub (ws' := [(g, .inr (3, [.ref rv, .ref rk, .ref pt, .ref sp])), (rv, .inr (1, [.ref av, .int (nI nv)])), (av, .inl (kv, 100, .inl fv)), (rk, .inr (1, [.ref ak, .int (nI nk)])), (ak, .inl (kk, 100, .inl fk)), (pt, .inr (0, [.ref ap, .int (nI np)])), (ap, .inl (kp, 100, .inl fp)), (sp, .inr (2, [.ref a1, .ref a2, .int (nI ns)])), (a1, .inl (k1, 100, .inl f1)), (a2, .inl (k2, 100, .inl f2))]) [0, 1, 2, 3, 4, 5, 6, 7, 8, 9] rfl) rfl rfl) rfl rfl hl.1 rfl (lv_room (Nat.le_of_ble_eq_true rfl)) dX3_clear_2 ⟨Nat.le_of_ble_eq_true rfl, Nat.le_of_ble_eq_true rfl⟩)) (fun r1 hr1 => ?_)
  by_cases w0 : w = 0
  · skip
    obtain rfl : r1 = some rv := by rw [hr1, if_pos w0]
    refine lv_astore_n (lv' := [(2, .ref rv), (0, .ref g), (1, .int (w))]) hx hb dX3_clear_5 rfl hl (by decide) rfl (fun ls hl => ?_)
    refine lv_aload_n hx hb dX3_clear_6 rfl (lv_at hl 0 rfl) ?_
    refine lv_ifnonnull (tgt := 12) hx hb dX3_clear_7 (by decide) ?_
    refine lv_aload_n hx hb dX3_clear_12 rfl (lv_at hl 0 rfl) ?_
    refine va_getN (D := (dC, dI)) (ci := 1) (v := .int (nI nv)) (C := RX1) (T := TX1) (N := 2) hx hb hw inX1 hown hK hP 1 rfl rfl 1 (by decide) (va_Nw.use rfl hN.2.2.1) (fun _ h9 => h9) rfl dX3_clear_13 ?_
    refine lv_istore_n (lv' := [(3, .int (nI nv)), (2, .ref rv), (0, .ref g), (1, .int (w))]) hx hb dX3_clear_16 rfl hl (by decide) rfl (fun ls hl => ?_)
    refine lv_aload_n hx hb dX3_clear_17 rfl (lv_at hl 1 rfl) ?_
    refine lv_iconst (v := 0) hx hb dX3_clear_18 (by decide) ?_
    refine lv_topi (fun x2 ex2 => ?_)
    obtain rfl : x2 = nI 0 := by rw [ex2]; exact nI_0.symm
    refine va_putN (D := (dC, dI)) (ci := 1) (v := .int (nI 0)) (ty := .int) (C := RX1) (T := TX1) (N := 2) hx hb hw inX1 tyX1 tyX1_ok nmX1 hown hK hP hD hS 1 rfl rfl 1 (by decide) (va_Nw.use rfl hN.2.2.1) (fun _ h9 => h9) rfl (by decide +kernel) rfl rfl (Nat.le_of_ble_eq_true rfl) dX3_clear_19 (fun H locs hP hD hS => ?_)
    have hP : va_P (dC, dI) cl5 [(g, .inr (3, [.ref rv, .ref rk, .ref pt, .ref sp])), (rv, .inr (1, [.ref av, .int (nI 0)])), (av, .inl (kv, 100, .inl fv)), (rk, .inr (1, [.ref ak, .int (nI nk)])), (ak, .inl (kk, 100, .inl fk)), (pt, .inr (0, [.ref ap, .int (nI np)])), (ap, .inl (kp, 100, .inl fp)), (sp, .inr (2, [.ref a1, .ref a2, .int (nI ns)])), (a1, .inl (k1, 100, .inl f1)), (a2, .inl (k2, 100, .inl f2))] H := hP
    have hD : va_D A [(g, .inr (3, [.ref rv, .ref rk, .ref pt, .ref sp])), (rv, .inr (1, [.ref av, .int (nI 0)])), (av, .inl (kv, 100, .inl fv)), (rk, .inr (1, [.ref ak, .int (nI nk)])), (ak, .inl (kk, 100, .inl fk)), (pt, .inr (0, [.ref ap, .int (nI np)])), (ap, .inl (kp, 100, .inl fp)), (sp, .inr (2, [.ref a1, .ref a2, .int (nI ns)])), (a1, .inl (k1, 100, .inl f1)), (a2, .inl (k2, 100, .inl f2))] := hD
    refine lv_iload_n hx hb dX3_clear_22 rfl (lv_at hl 0 rfl) ?_
    subst hQ
    exact W.iret (v := (nI nv)) hx hb hr (fun t ht hW => ⟨⟨_, (0, nk), rfl, ⟨by rw [if_pos w0], by rw [if_pos w0]⟩, by rw [ht]; exact hP, hD⟩, hS.F ht⟩) hS.2.2 dX3_clear_23
  · skip
    by_cases w1 : w = 1
    · skip
      obtain rfl : r1 = some rk := by rw [hr1, if_neg w0, if_pos w1]
      refine lv_astore_n (lv' := [(2, .ref rk), (0, .ref g), (1, .int (w))]) hx hb dX3_clear_5 rfl hl (by decide) rfl (fun ls hl => ?_)
      refine lv_aload_n hx hb dX3_clear_6 rfl (lv_at hl 0 rfl) ?_
      refine lv_ifnonnull (tgt := 12) hx hb dX3_clear_7 (by decide) ?_
      refine lv_aload_n hx hb dX3_clear_12 rfl (lv_at hl 0 rfl) ?_
      refine va_getN (D := (dC, dI)) (ci := 1) (v := .int (nI nk)) (C := RX1) (T := TX1) (N := 2) hx hb hw inX1 hown hK hP 3 rfl rfl 1 (by decide) (va_Nw.use rfl hN.2.2.1) (fun _ h9 => h9) rfl dX3_clear_13 ?_
      refine lv_istore_n (lv' := [(3, .int (nI nk)), (2, .ref rk), (0, .ref g), (1, .int (w))]) hx hb dX3_clear_16 rfl hl (by decide) rfl (fun ls hl => ?_)
      refine lv_aload_n hx hb dX3_clear_17 rfl (lv_at hl 1 rfl) ?_
      refine lv_iconst (v := 0) hx hb dX3_clear_18 (by decide) ?_
      refine lv_topi (fun x3 ex3 => ?_)
      obtain rfl : x3 = nI 0 := by rw [ex3]; exact nI_0.symm
      refine va_putN (D := (dC, dI)) (ci := 1) (v := .int (nI 0)) (ty := .int) (C := RX1) (T := TX1) (N := 2) hx hb hw inX1 tyX1 tyX1_ok nmX1 hown hK hP hD hS 3 rfl rfl 1 (by decide) (va_Nw.use rfl hN.2.2.1) (fun _ h9 => h9) rfl (by decide +kernel) rfl rfl (Nat.le_of_ble_eq_true rfl) dX3_clear_19 (fun H locs hP hD hS => ?_)
      have hP : va_P (dC, dI) cl5 [(g, .inr (3, [.ref rv, .ref rk, .ref pt, .ref sp])), (rv, .inr (1, [.ref av, .int (nI nv)])), (av, .inl (kv, 100, .inl fv)), (rk, .inr (1, [.ref ak, .int (nI 0)])), (ak, .inl (kk, 100, .inl fk)), (pt, .inr (0, [.ref ap, .int (nI np)])), (ap, .inl (kp, 100, .inl fp)), (sp, .inr (2, [.ref a1, .ref a2, .int (nI ns)])), (a1, .inl (k1, 100, .inl f1)), (a2, .inl (k2, 100, .inl f2))] H := hP
      have hD : va_D A [(g, .inr (3, [.ref rv, .ref rk, .ref pt, .ref sp])), (rv, .inr (1, [.ref av, .int (nI nv)])), (av, .inl (kv, 100, .inl fv)), (rk, .inr (1, [.ref ak, .int (nI 0)])), (ak, .inl (kk, 100, .inl fk)), (pt, .inr (0, [.ref ap, .int (nI np)])), (ap, .inl (kp, 100, .inl fp)), (sp, .inr (2, [.ref a1, .ref a2, .int (nI ns)])), (a1, .inl (k1, 100, .inl f1)), (a2, .inl (k2, 100, .inl f2))] := hD
      refine lv_iload_n hx hb dX3_clear_22 rfl (lv_at hl 0 rfl) ?_
      subst hQ
      exact W.iret (v := (nI nk)) hx hb hr (fun t ht hW => ⟨⟨_, (nv, 0), rfl, ⟨by rw [if_neg w0, if_pos w1], by rw [if_neg w0, if_pos w1]⟩, by rw [ht]; exact hP, hD⟩, hS.F ht⟩) hS.2.2 dX3_clear_23
    · skip
      obtain rfl : r1 = none := by rw [hr1, if_neg w0, if_neg w1]
      refine lv_astore_nN (lv' := [(2, .null), (0, .ref g), (1, .int (w))]) hx hb dX3_clear_5 rfl hl (by decide) rfl (fun ls hl => ?_)
      refine lv_aload_nN hx hb dX3_clear_6 rfl (lv_at hl 0 rfl) ?_
      refine lv_ifnonnullN hx hb dX3_clear_7 ?_
      refine lv_iconst (v := -1) hx hb dX3_clear_10 (by decide) ?_
      subst hQ
      exact W.iret (v := (-1)) hx hb hr (fun t ht hW => ⟨⟨_, (nv, nk), rfl, ⟨by rw [if_neg w0, if_neg w1], by rw [if_neg w0, if_neg w1]⟩, by rw [ht]; exact hP, hD⟩, hS.F ht⟩) hS.2.2 dX3_clear_11
