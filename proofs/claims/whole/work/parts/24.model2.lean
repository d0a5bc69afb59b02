abbrev rm_m_con : Room := { frames := 1, cells := 0, slots := 0, locals := 21 }
set_option maxHeartbeats 4000000 in
set_option maxRecDepth 100000 in
theorem m_con (l : Launch) (dC : Nat → ClassId) (dI : Nat → Nat → Nat) (sz : Nat) (mo mv mk ms ml mc mf mn : Nat) (jv jk js jl jc jf jn : ClassId) (fv fk gs gl gc gf gn : Nat → Int32) (nv nk sn : Nat) (th : Int32) (hv : nv ≤ 100) (hk : nk ≤ 100) (hrk : rng fk nk) (cp : Int32) : Met l yX4_contains (.code yX4_contains cX4_contains 4 (some (.boolean)) :: wsA) rm_m_con (va_Pc [.ref mo, .int (cp)] (wr (dC, dI) [(mo, .inr (4, [.int (th), .ref mv, .ref mk, .int (nI nv), .int (nI nk), .int (nI sn), .ref ms, .ref ml, .ref mc, .int (nI 0), .ref mf, .ref mn])), (mv, .inl (jv, 100, .inl fv)), (mk, .inl (jk, 100, .inl fk)), (ms, .inl (js, 100, .inl gs)), (ml, .inl (jl, 100, .inl gl)), (mc, .inl (jc, 10201, .inl gc)), (mf, .inl (jf, 100, .inl gf)), (mn, .inl (jn, 100, .inl gn))] [(jv, .int), (jk, .int), (js, .int), (jl, .int), (jc, .boolean), (jf, .int), (jn, .int)] sz)) (va_Qi (fun (r : Int32) (u : (Nat → Int32) × (Nat → Int32) × Nat) => u.2.2 ≤ 100 ∧ mres (sCon fv fk nv nk cp) r u.1 u.2.1 u.2.2 ∧ (r = 0 → u.2.2 = 0)) (wB (dC, dI) (va_A [(mo, .inr (4, [.int (th), .ref mv, .ref mk, .int (nI nv), .int (nI nk), .int (nI sn), .ref ms, .ref ml, .ref mc, .int (nI 0), .ref mf, .ref mn])), (mv, .inl (jv, 100, .inl fv)), (mk, .inl (jk, 100, .inl fk)), (ms, .inl (js, 100, .inl gs)), (ml, .inl (jl, 100, .inl gl)), (mc, .inl (jc, 10201, .inl gc)), (mf, .inl (jf, 100, .inl gf)), (mn, .inl (jn, 100, .inl gn))] sz) (fun u : (Nat → Int32) × (Nat → Int32) × Nat => [(mo, .inr (4, [.int (th), .ref mv, .ref mk, .int (nI nv), .int (nI nk), .int (nI sn), .ref ms, .ref ml, .ref mc, .int (nI u.2.2), .ref mf, .ref mn])), (mv, .inl (jv, 100, .inl fv)), (mk, .inl (jk, 100, .inl fk)), (ms, .inl (js, 100, .inl gs)), (ml, .inl (jl, 100, .inl gl)), (mc, .inl (jc, 10201, .inl gc)), (mf, .inl (jf, 100, .inl (u.1))), (mn, .inl (jn, 100, .inl (u.2.1)))])) (va_A [(mo, .inr (4, [.int (th), .ref mv, .ref mk, .int (nI nv), .int (nI nk), .int (nI sn), .ref ms, .ref ml, .ref mc, .int (nI 0), .ref mf, .ref mn])), (mv, .inl (jv, 100, .inl fv)), (mk, .inl (jk, 100, .inl fk)), (ms, .inl (js, 100, .inl gs)), (ml, .inl (jl, 100, .inl gl)), (mc, .inl (jc, 10201, .inl gc)), (mf, .inl (jf, 100, .inl gf)), (mn, .inl (jn, 100, .inl gn))] sz)) 0 0 (va_A [(mo, .inr (4, [.int (th), .ref mv, .ref mk, .int (nI nv), .int (nI nk), .int (nI sn), .ref ms, .ref ml, .ref mc, .int (nI 0), .ref mf, .ref mn])), (mv, .inl (jv, 100, .inl fv)), (mk, .inl (jk, 100, .inl fk)), (ms, .inl (js, 100, .inl gs)), (ml, .inl (jl, 100, .inl gl)), (mc, .inl (jc, 10201, .inl gc)), (mf, .inl (jf, 100, .inl gf)), (mn, .inl (jn, 100, .inl gn))] sz) := by
  refine Met.ofW (cc := cX4_contains) (maxL := 4) (ret := (some (.boolean))) (by decide) rfl ?_
  intro p e s m args below meth c s₁ B hml hv
  obtain ⟨hargs, hsz, hN, hP, hK, hD0⟩ := hv
  have hx := B.exec
  have hb := B.bytes
  have hr := B.returns
  have hw : ∀ w ∈ wsA, w.before args s = true := fun w h => atoms_spec (ws := (.code yX4_contains cX4_contains 4 (some (.boolean)) :: wsA)) B.pre w (List.mem_cons_of_mem _ h)
  have hown : s.vm.findClass "GlobDeskModel" = some m.cls := findClass_of_methodNamed B.named
  have hlocks := B.notSynchronized
  subst hsz
  have hD := hD0.self (sz := s.heap.size)
  generalize hAe : va_A [(mo, .inr (4, [.int (th), .ref mv, .ref mk, .int (nI nv), .int (nI nk), .int (nI sn), .ref ms, .ref ml, .ref mc, .int (nI 0), .ref mf, .ref mn])), (mv, .inl (jv, 100, .inl fv)), (mk, .inl (jk, 100, .inl fk)), (ms, .inl (js, 100, .inl gs)), (ml, .inl (jl, 100, .inl gl)), (mc, .inl (jc, 10201, .inl gc)), (mf, .inl (jf, 100, .inl gf)), (mn, .inl (jn, 100, .inl gn))] s.heap.size = A at hD ⊢
  have hA : ∀ q : Nat, s.heap.size ≤ q → A q := fun q h => by rw [← hAe]; exact Or.inr h
  have hS : va_S A s.heap s.heap [] := va_S.rf
  generalize hQ : MQ below _ args s _ _ _ = Q
  change W p l e rm_m_con s m args below meth c s.heap [] 0 0 Q (entryFrame m args 4)
  have hl := lv_entry ([.ref mo, .int (cp)]) (n := 4) (Nat.le_of_ble_eq_true rfl)
  rw [show entryFrame m args 4 = entryFrame m ([.ref mo, .int (cp)] : List Value).toArray 4 from by rw [hargs], lg_entry_eq]
  generalize (lg_sl ([.ref mo, .int (cp)]) ++ List.replicate (4 - (lg_sl ([.ref mo, .int (cp)])).length) Slot.unset).toArray = ls at hl ⊢
  have hl : lv_has ls 4 [(0, .ref mo), (1, .int (cp))] := hl
  refine lv_iconst (v := 0) hx hb dX4_contains_0 (by decide) ?_
  refine lv_topi (fun x1 ex1 => ?_)
  obtain rfl : x1 = nI 0 := by rw [ex1]; exact nI_0.symm
  refine lv_istore_n (lv' := [(2, .int (nI 0)), (0, .ref mo), (1, .int (cp))]) hx hb dX4_contains_1 rfl hl (by decide) rfl (fun ls hl => ?_)
  have loop2 : ∀ (nn2 : Nat) (i : Nat) (hi : i ≤ 101) (e9 : fpA fk fv nv cp 0 nk (nv + 1 - (nk - 0) - i) i = fpF fk fv nv cp 0 nk 0) (_ : 102 - i < nn2) (ls : Array Slot) (_ : lv_has ls 4 [(0, .ref mo), (1, .int (cp)), (2, .int (nI i))]), W p l e rm_m_con s m args below meth c s.heap [] 0 0 Q (F0 m 2 ls []) := by
    intro nn2
    induction nn2 with
    | zero => intro i hi e9 hm2 ls hl; exact absurd hm2 (Nat.not_lt_zero _)
    | succ nn2 ih2 =>
      intro i hi e9 hm2 ls hl
      refine lv_iload_n hx hb dX4_contains_2 rfl (lv_at hl 2 rfl) ?_
      refine lv_aload_n hx hb dX4_contains_3 rfl (lv_at hl 0 rfl) ?_
      refine va_get (D := (dC, dI)) (ci := 4) (v := .int (nI nk)) (C := RX4) (T := TX4) (N := 12) hx hb hw inX4 hown hK hP 0 rfl rfl 4 (by decide) (hw _ mw248) (fun _ h9 => h9) rfl dX4_contains_4 ?_
      refine lv_iadd hx hb dX4_contains_7 ?_
      refine lv_topi (fun x2 ex2 => ?_)
      obtain rfl : x2 = nI (i + nk) := by rw [ex2]; exact nI_add i nk
      refine lv_aload_n hx hb dX4_contains_8 rfl (lv_at hl 0 rfl) ?_
      refine va_get (D := (dC, dI)) (ci := 4) (v := .int (nI nv)) (C := RX4) (T := TX4) (N := 12) hx hb hw inX4 hown hK hP 0 rfl rfl 3 (by decide) (hw _ mw247) (fun _ h9 => h9) rfl dX4_contains_9 ?_
      refine lv_icmp_gt (tgt := 94) hx hb dX4_contains_12 (by decide) (fun c12_2 => ?_) (fun c12_2 => ?_)
      · skip
        rw [ti_lt, nI_toInt (by omega), nI_toInt (by omega)] at c12_2
        have e8 : nv + 1 - (nk - 0) - i = 0 := by omega
        refine lv_iconst (v := 0) hx hb dX4_contains_94 (by decide) ?_
        subst hQ
        exact W.zret (v := 0) hx hb hr (by decide) (fun t ht hW => ⟨⟨_, (gf, gn, 0), rfl, ⟨Nat.zero_le _, Or.inr ⟨rfl, con_no (by rw [← e9, e8]; rfl)⟩, fun _ => rfl⟩, by rw [ht]; exact hP, hD⟩, hS.F ht⟩) hS.2.2 dX4_contains_95
      · skip
        rw [ti_lt, nI_toInt (by omega), nI_toInt (by omega)] at c12_2
        refine lv_iconst (v := 0) hx hb dX4_contains_15 (by decide) ?_
        refine lv_topi (fun x4 ex4 => ?_)
        obtain rfl : x4 = nI 0 := by rw [ex4]; exact nI_0.symm
        refine lv_istore_n (lv' := [(3, .int (nI 0)), (0, .ref mo), (1, .int (cp)), (2, .int (nI i))]) hx hb dX4_contains_16 rfl hl (by decide) rfl (fun ls hl => ?_)
        have loop17 : ∀ (nn17 : Nat) (j : Nat) (hj : j ≤ nk) (e7 : fitA fk fv cp (nk - j) j (i + j) = fitA fk fv cp nk 0 i) (_ : nk - j < nn17) (ls : Array Slot) (_ : lv_has ls 4 [(0, .ref mo), (1, .int (cp)), (2, .int (nI i)), (3, .int (nI j))]), W p l e rm_m_con s m args below meth c s.heap [] 0 0 Q (F0 m 17 ls []) := by
          intro nn17
          induction nn17 with
          | zero => intro j hj e7 hm17 ls hl; exact absurd hm17 (Nat.not_lt_zero _)
          | succ nn17 ih17 =>
            intro j hj e7 hm17 ls hl
            refine lv_iload_n hx hb dX4_contains_17 rfl (lv_at hl 3 rfl) ?_
            refine lv_aload_n hx hb dX4_contains_18 rfl (lv_at hl 0 rfl) ?_
            refine va_get (D := (dC, dI)) (ci := 4) (v := .int (nI nk)) (C := RX4) (T := TX4) (N := 12) hx hb hw inX4 hown hK hP 0 rfl rfl 4 (by decide) (hw _ mw248) (fun _ h9 => h9) rfl dX4_contains_19 ?_
            refine lv_icmp_ge (tgt := 56) hx hb dX4_contains_22 (by decide) (fun c22_4 => ?_) (fun c22_4 => ?_)
            · skip
              rw [ti_le, nI_toInt (by omega), nI_toInt (by omega)] at c22_4
              have ej : j = nk := by omega
              refine lv_iload_n hx hb dX4_contains_56 rfl (lv_at hl 3 rfl) ?_
              refine lv_aload_n hx hb dX4_contains_57 rfl (lv_at hl 0 rfl) ?_
              refine va_get (D := (dC, dI)) (ci := 4) (v := .int (nI nk)) (C := RX4) (T := TX4) (N := 12) hx hb hw inX4 hown hK hP 0 rfl rfl 4 (by decide) (hw _ mw248) (fun _ h9 => h9) rfl dX4_contains_58 ?_
              refine lv_icmp_ne (tgt := 88) hx hb dX4_contains_61 (by decide) (fun c61_5 => ?_) (fun c61_5 => ?_)
              · skip
                have e6 : ¬ j = nk := fun q => c61_5 (by rw [q])
                omega
              · skip
                have e6 : j = nk := (nI_eq (by omega) (by omega)).mp (by first | exact c61_5 | exact Decidable.not_not.mp c61_5)
                refine lv_aload_n hx hb dX4_contains_64 rfl (lv_at hl 0 rfl) ?_
                refine va_get (D := (dC, dI)) (ci := 4) (v := .ref mf) (C := RX4) (T := TX4) (N := 12) hx hb hw inX4 hown hK hP 0 rfl rfl 10 (by decide) (hw _ mw254) (fun _ h9 => h9) rfl dX4_contains_65 ?_
                refine lv_iconst (v := 0) hx hb dX4_contains_68 (by decide) ?_
                refine lv_topi (fun x7 ex7 => ?_)
                obtain rfl : x7 = nI 0 := by rw [ex7]; exact nI_0.symm
                refine lv_iload_n hx hb dX4_contains_69 rfl (lv_at hl 2 rfl) ?_
                refine va_iast hx hb hK hP hD hS 6 5 rfl rfl (i := (nI 0)) (vp_in_nI (by omega) (by omega)) dX4_contains_70 (fun H locs hP hD hS => ?_)
                rw [nI_clamp (by omega)] at hP hD
                have hP : va_P (dC, dI) cl5 [(mo, .inr (4, [.int (th), .ref mv, .ref mk, .int (nI nv), .int (nI nk), .int (nI sn), .ref ms, .ref ml, .ref mc, .int (nI 0), .ref mf, .ref mn])), (mv, .inl (jv, 100, .inl fv)), (mk, .inl (jk, 100, .inl fk)), (ms, .inl (js, 100, .inl gs)), (ml, .inl (jl, 100, .inl gl)), (mc, .inl (jc, 10201, .inl gc)), (mf, .inl (jf, 100, .inl (upd gf 0 (nI i)))), (mn, .inl (jn, 100, .inl gn))] H := hP
                have hD : va_D A [(mo, .inr (4, [.int (th), .ref mv, .ref mk, .int (nI nv), .int (nI nk), .int (nI sn), .ref ms, .ref ml, .ref mc, .int (nI 0), .ref mf, .ref mn])), (mv, .inl (jv, 100, .inl fv)), (mk, .inl (jk, 100, .inl fk)), (ms, .inl (js, 100, .inl gs)), (ml, .inl (jl, 100, .inl gl)), (mc, .inl (jc, 10201, .inl gc)), (mf, .inl (jf, 100, .inl (upd gf 0 (nI i)))), (mn, .inl (jn, 100, .inl gn))] := hD
                refine lv_aload_n hx hb dX4_contains_71 rfl (lv_at hl 0 rfl) ?_
                refine va_get (D := (dC, dI)) (ci := 4) (v := .ref mn) (C := RX4) (T := TX4) (N := 12) hx hb hw inX4 hown hK hP 0 rfl rfl 11 (by decide) (hw _ mw255) (fun _ h9 => h9) rfl dX4_contains_72 ?_
                refine lv_iconst (v := 0) hx hb dX4_contains_75 (by decide) ?_
                refine lv_topi (fun x8 ex8 => ?_)
                obtain rfl : x8 = nI 0 := by rw [ex8]; exact nI_0.symm
                refine lv_aload_n hx hb dX4_contains_76 rfl (lv_at hl 0 rfl) ?_
                refine va_get (D := (dC, dI)) (ci := 4) (v := .int (nI nk)) (C := RX4) (T := TX4) (N := 12) hx hb hw inX4 hown hK hP 0 rfl rfl 4 (by decide) (hw _ mw248) (fun _ h9 => h9) rfl dX4_contains_77 ?_
                refine va_iast hx hb hK hP hD hS 7 6 rfl rfl (i := (nI 0)) (vp_in_nI (by omega) (by omega)) dX4_contains_80 (fun H locs hP hD hS => ?_)
                rw [nI_clamp (by omega)] at hP hD
                have hP : va_P (dC, dI) cl5 [(mo, .inr (4, [.int (th), .ref mv, .ref mk, .int (nI nv), .int (nI nk), .int (nI sn), .ref ms, .ref ml, .ref mc, .int (nI 0), .ref mf, .ref mn])), (mv, .inl (jv, 100, .inl fv)), (mk, .inl (jk, 100, .inl fk)), (ms, .inl (js, 100, .inl gs)), (ml, .inl (jl, 100, .inl gl)), (mc, .inl (jc, 10201, .inl gc)), (mf, .inl (jf, 100, .inl (upd gf 0 (nI i)))), (mn, .inl (jn, 100, .inl (upd gn 0 (nI nk))))] H := hP
                have hD : va_D A [(mo, .inr (4, [.int (th), .ref mv, .ref mk, .int (nI nv), .int (nI nk), .int (nI sn), .ref ms, .ref ml, .ref mc, .int (nI 0), .ref mf, .ref mn])), (mv, .inl (jv, 100, .inl fv)), (mk, .inl (jk, 100, .inl fk)), (ms, .inl (js, 100, .inl gs)), (ml, .inl (jl, 100, .inl gl)), (mc, .inl (jc, 10201, .inl gc)), (mf, .inl (jf, 100, .inl (upd gf 0 (nI i)))), (mn, .inl (jn, 100, .inl (upd gn 0 (nI nk))))] := hD
                refine lv_aload_n hx hb dX4_contains_81 rfl (lv_at hl 0 rfl) ?_
                refine lv_iconst (v := 1) hx hb dX4_contains_82 (by decide) ?_
                refine lv_topi (fun x9 ex9 => ?_)
                obtain rfl : x9 = nI 1 := by rw [ex9]; rfl
                refine va_put (D := (dC, dI)) (ci := 4) (v := .int (nI 1)) (ty := .int) (C := RX4) (T := TX4) (N := 12) hx hb hw inX4 tyX4 tyX4_ok nmX4 hown hK hP hD hS 0 rfl rfl 9 (by decide) (hw _ mw253) (fun _ h9 => h9) rfl (by decide +kernel) rfl rfl (Nat.le_of_ble_eq_true rfl) dX4_contains_83 (fun H locs hP hD hS => ?_)
                have hP : va_P (dC, dI) cl5 [(mo, .inr (4, [.int (th), .ref mv, .ref mk, .int (nI nv), .int (nI nk), .int (nI sn), .ref ms, .ref ml, .ref mc, .int (nI 1), .ref mf, .ref mn])), (mv, .inl (jv, 100, .inl fv)), (mk, .inl (jk, 100, .inl fk)), (ms, .inl (js, 100, .inl gs)), (ml, .inl (jl, 100, .inl gl)), (mc, .inl (jc, 10201, .inl gc)), (mf, .inl (jf, 100, .inl (upd gf 0 (nI i)))), (mn, .inl (jn, 100, .inl (upd gn 0 (nI nk))))] H := hP
                have hD : va_D A [(mo, .inr (4, [.int (th), .ref mv, .ref mk, .int (nI nv), .int (nI nk), .int (nI sn), .ref ms, .ref ml, .ref mc, .int (nI 1), .ref mf, .ref mn])), (mv, .inl (jv, 100, .inl fv)), (mk, .inl (jk, 100, .inl fk)), (ms, .inl (js, 100, .inl gs)), (ml, .inl (jl, 100, .inl gl)), (mc, .inl (jc, 10201, .inl gc)), (mf, .inl (jf, 100, .inl (upd gf 0 (nI i)))), (mn, .inl (jn, 100, .inl (upd gn 0 (nI nk))))] := hD
                refine lv_iconst (v := 1) hx hb dX4_contains_86 (by decide) ?_
                subst hQ
                exact W.zret (v := 1) hx hb hr (by decide) (fun t ht hW => ⟨⟨_, (upd gf 0 (nI i), upd gn 0 (nI nk), 1), rfl, ⟨by show 1 ≤ 100; omega, Or.inl ⟨rfl, [(i, nk)], con_yes hv (by rw [← e9, fpA_hit (by omega) (by unfold fitB; rw [Nat.sub_zero, ← e7, ej, Nat.sub_self, decide_eq_true (by omega)]; rfl)]) (by omega), spIs_add spIs_0⟩, fun h => absurd h (by decide)⟩, by rw [ht]; exact hP, hD⟩, hS.F ht⟩) hS.2.2 dX4_contains_87
            · skip
              rw [ti_le, nI_toInt (by omega), nI_toInt (by omega)] at c22_4
              refine lv_aload_n hx hb dX4_contains_25 rfl (lv_at hl 0 rfl) ?_
              refine va_get (D := (dC, dI)) (ci := 4) (v := .ref mv) (C := RX4) (T := TX4) (N := 12) hx hb hw inX4 hown hK hP 0 rfl rfl 1 (by decide) (hw _ mw245) (fun _ h9 => h9) rfl dX4_contains_26 ?_
              refine lv_iload_n hx hb dX4_contains_29 rfl (lv_at hl 2 rfl) ?_
              refine lv_iload_n hx hb dX4_contains_30 rfl (lv_at hl 3 rfl) ?_
              refine lv_iadd hx hb dX4_contains_31 ?_
              refine lv_topi (fun x10 ex10 => ?_)
              obtain rfl : x10 = nI (i + j) := by rw [ex10]; exact nI_add i j
              refine va_iald hx hb hK hP 1 0 rfl rfl (i := (nI (i + j))) (vp_in_nI (by omega) (by omega)) dX4_contains_32 ?_
              refine lv_topi (fun x11 ex11 => ?_)
              obtain rfl : x11 = fv (i + j) := by rw [ex11, nI_clamp (by omega)]
              refine lv_iload_n hx hb dX4_contains_33 rfl (lv_at hl 1 rfl) ?_
              refine vp_callSi (va_Run.run (va_runS (As := [.int (fv (i + j)), .int (cp)]) (rest := []) ⟨hx, hb, hml, hown, hw⟩ (m_fold l (fv (i + j)) (cp)) (cwS 2 hw (gS mw308 mw309 mw20 mw310) rfl rfl rfl (by decide +kernel) ⟨Nat.le_of_ble_eq_true rfl, Nat.le_of_ble_eq_true rfl⟩) st.S rfl rfl hl.1 rfl (lv_room (Nat.le_of_ble_eq_true rfl)) dX4_contains_34 ⟨Nat.le_of_ble_eq_true rfl, Nat.le_of_ble_eq_true rfl⟩)) (fun r12 hr12 => ?_)
              subst hr12
              refine lv_aload_n hx hb dX4_contains_37 rfl (lv_at hl 0 rfl) ?_
              refine va_get (D := (dC, dI)) (ci := 4) (v := .ref mk) (C := RX4) (T := TX4) (N := 12) hx hb hw inX4 hown hK hP 0 rfl rfl 2 (by decide) (hw _ mw246) (fun _ h9 => h9) rfl dX4_contains_38 ?_
              refine lv_iload_n hx hb dX4_contains_41 rfl (lv_at hl 3 rfl) ?_
              refine va_iald hx hb hK hP 2 1 rfl rfl (i := (nI j)) (vp_in_nI (by omega) (by omega)) dX4_contains_42 ?_
              refine lv_topi (fun x13 ex13 => ?_)
              obtain rfl : x13 = fk j := by rw [ex13, nI_clamp (by omega)]
              refine lv_iload_n hx hb dX4_contains_43 rfl (lv_at hl 1 rfl) ?_
              refine vp_callSi (va_Run.run (va_runS (As := [.int (fk j), .int (cp)]) (rest := [.int (fo (fv (i + j)) (cp))]) ⟨hx, hb, hml, hown, hw⟩ (m_fold l (fk j) (cp)) (cwS 2 hw (gS mw308 mw309 mw20 mw310) rfl rfl rfl (by decide +kernel) ⟨Nat.le_of_ble_eq_true rfl, Nat.le_of_ble_eq_true rfl⟩) st.S rfl rfl hl.1 rfl (lv_room (Nat.le_of_ble_eq_true rfl)) dX4_contains_44 ⟨Nat.le_of_ble_eq_true rfl, Nat.le_of_ble_eq_true rfl⟩)) (fun r14 hr14 => ?_)
              subst hr14
              refine lv_icmp_ne (tgt := 56) hx hb dX4_contains_47 (by decide) (fun c47_14 => ?_) (fun c47_14 => ?_)
              · skip
                have d1 := fitA_no (k := nk - j) (by omega) (mok_no (rng_256 hrk (by omega)) c47_14)
                refine lv_iload_n hx hb dX4_contains_56 rfl (lv_at hl 3 rfl) ?_
                refine lv_aload_n hx hb dX4_contains_57 rfl (lv_at hl 0 rfl) ?_
                refine va_get (D := (dC, dI)) (ci := 4) (v := .int (nI nk)) (C := RX4) (T := TX4) (N := 12) hx hb hw inX4 hown hK hP 0 rfl rfl 4 (by decide) (hw _ mw248) (fun _ h9 => h9) rfl dX4_contains_58 ?_
                refine lv_icmp_ne (tgt := 88) hx hb dX4_contains_61 (by decide) (fun c61_15 => ?_) (fun c61_15 => ?_)
                · skip
                  have e6 : ¬ j = nk := fun q => c61_15 (by rw [q])
                  refine lv_iinc (v := nI (i + 1)) (lv' := [(2, .int (nI (i + 1))), (0, .ref mo), (1, .int (cp)), (3, .int (nI j))]) hx hb dX4_contains_88 hl (k := 2) rfl (nI_inc i) (by decide) rfl (fun ls hl => ?_)
                  refine lv_goto (tgt := 2) hx hb dX4_contains_91 (by decide) ?_
                  exact ih2 (i + 1) (by omega) ((fpA_next (k := nv + 1 - (nk - 0) - i) (by omega) (by unfold fitB; rw [Nat.sub_zero, ← e7, d1, Bool.and_false])).symm.trans e9) (by omega) ls (lv_sub hl [1, 2, 0] rfl)
                · skip
                  have e6 : j = nk := (nI_eq (by omega) (by omega)).mp (by first | exact c61_15 | exact Decidable.not_not.mp c61_15)
                  omega
              · skip
                have d1 : mok (fk j) (fv (i + j)) cp = true := decide_eq_true (Or.inr (Eq.symm (by first | exact c47_14 | exact Decidable.not_not.mp c47_14)))
                refine lv_iinc (v := nI (j + 1)) (lv' := [(3, .int (nI (j + 1))), (0, .ref mo), (1, .int (cp)), (2, .int (nI i))]) hx hb dX4_contains_50 hl (k := 3) rfl (nI_inc j) (by decide) rfl (fun ls hl => ?_)
                refine lv_goto (tgt := 17) hx hb dX4_contains_53 (by decide) ?_
                exact ih17 (j + 1) (by omega) ((fitA_yes (k := nk - j) (by omega) d1).symm.trans e7) (by omega) ls (lv_sub hl [1, 2, 3, 0] rfl)
        exact loop17 (nk + 1) 0 (Nat.zero_le _) rfl (by omega) ls (lv_sub hl [1, 2, 3, 0] rfl)
  exact loop2 103 0 (Nat.zero_le _) rfl (by omega) ls (lv_sub hl [1, 2, 0] rfl)

abbrev rm_m_signs : Room := { frames := 0, cells := 0, slots := 0, locals := 0 }
set_option maxHeartbeats 4000000 in
set_option maxRecDepth 100000 in
theorem m_signs (l : Launch) (dC : Nat → ClassId) (dI : Nat → Nat → Nat) (sz : Nat) (mo mv mk ms ml mc mf mn : Nat) (jv jk js jl jc jf jn : ClassId) (fv fk gs gl gc gf gn : Nat → Int32) (nv nk sn ct : Nat) (th : Int32) (hv : nv ≤ 100) (hk : nk ≤ 100) (hrk : rng fk nk) : Met l yX4_findSigns (.code yX4_findSigns cX4_findSigns 3 none :: wsA) rm_m_signs (va_Pc [.ref mo] (wr (dC, dI) [(mo, .inr (4, [.int (th), .ref mv, .ref mk, .int (nI nv), .int (nI nk), .int (nI sn), .ref ms, .ref ml, .ref mc, .int (nI ct), .ref mf, .ref mn])), (mv, .inl (jv, 100, .inl fv)), (mk, .inl (jk, 100, .inl fk)), (ms, .inl (js, 100, .inl gs)), (ml, .inl (jl, 100, .inl gl)), (mc, .inl (jc, 10201, .inl gc)), (mf, .inl (jf, 100, .inl gf)), (mn, .inl (jn, 100, .inl gn))] [(jv, .int), (jk, .int), (js, .int), (jl, .int), (jc, .boolean), (jf, .int), (jn, .int)] sz)) (va_Qv (fun (u : (Nat → Int32) × (Nat → Int32) × Nat) => u.2.2 = mkN fk nk ∧ u.2.2 ≤ nk ∧ ∀ j, j < u.2.2 → srel (u.1 j) (u.2.1 j) (mkF fk nk j)) (wB (dC, dI) (va_A [(mo, .inr (4, [.int (th), .ref mv, .ref mk, .int (nI nv), .int (nI nk), .int (nI sn), .ref ms, .ref ml, .ref mc, .int (nI ct), .ref mf, .ref mn])), (mv, .inl (jv, 100, .inl fv)), (mk, .inl (jk, 100, .inl fk)), (ms, .inl (js, 100, .inl gs)), (ml, .inl (jl, 100, .inl gl)), (mc, .inl (jc, 10201, .inl gc)), (mf, .inl (jf, 100, .inl gf)), (mn, .inl (jn, 100, .inl gn))] sz) (fun u : (Nat → Int32) × (Nat → Int32) × Nat => [(mo, .inr (4, [.int (th), .ref mv, .ref mk, .int (nI nv), .int (nI nk), .int (nI u.2.2), .ref ms, .ref ml, .ref mc, .int (nI ct), .ref mf, .ref mn])), (mv, .inl (jv, 100, .inl fv)), (mk, .inl (jk, 100, .inl fk)), (ms, .inl (js, 100, .inl (u.1))), (ml, .inl (jl, 100, .inl (u.2.1))), (mc, .inl (jc, 10201, .inl gc)), (mf, .inl (jf, 100, .inl gf)), (mn, .inl (jn, 100, .inl gn))])) (va_A [(mo, .inr (4, [.int (th), .ref mv, .ref mk, .int (nI nv), .int (nI nk), .int (nI sn), .ref ms, .ref ml, .ref mc, .int (nI ct), .ref mf, .ref mn])), (mv, .inl (jv, 100, .inl fv)), (mk, .inl (jk, 100, .inl fk)), (ms, .inl (js, 100, .inl gs)), (ml, .inl (jl, 100, .inl gl)), (mc, .inl (jc, 10201, .inl gc)), (mf, .inl (jf, 100, .inl gf)), (mn, .inl (jn, 100, .inl gn))] sz)) 0 0 (va_A [(mo, .inr (4, [.int (th), .ref mv, .ref mk, .int (nI nv), .int (nI nk), .int (nI sn), .ref ms, .ref ml, .ref mc, .int (nI ct), .ref mf, .ref mn])), (mv, .inl (jv, 100, .inl fv)), (mk, .inl (jk, 100, .inl fk)), (ms, .inl (js, 100, .inl gs)), (ml, .inl (jl, 100, .inl gl)), (mc, .inl (jc, 10201, .inl gc)), (mf, .inl (jf, 100, .inl gf)), (mn, .inl (jn, 100, .inl gn))] sz) := by
  refine Met.ofW (cc := cX4_findSigns) (maxL := 3) (ret := none) (by decide) rfl ?_
  intro p e s m args below meth c s₁ B hml hv
  obtain ⟨hargs, hsz, hN, hP, hK, hD0⟩ := hv
  have hx := B.exec
  have hb := B.bytes
  have hr := B.returns
  have hw : ∀ w ∈ wsA, w.before args s = true := fun w h => atoms_spec (ws := (.code yX4_findSigns cX4_findSigns 3 none :: wsA)) B.pre w (List.mem_cons_of_mem _ h)
  have hown : s.vm.findClass "GlobDeskModel" = some m.cls := findClass_of_methodNamed B.named
  have hlocks := B.notSynchronized
  subst hsz
  have hD := hD0.self (sz := s.heap.size)
  generalize hAe : va_A [(mo, .inr (4, [.int (th), .ref mv, .ref mk, .int (nI nv), .int (nI nk), .int (nI sn), .ref ms, .ref ml, .ref mc, .int (nI ct), .ref mf, .ref mn])), (mv, .inl (jv, 100, .inl fv)), (mk, .inl (jk, 100, .inl fk)), (ms, .inl (js, 100, .inl gs)), (ml, .inl (jl, 100, .inl gl)), (mc, .inl (jc, 10201, .inl gc)), (mf, .inl (jf, 100, .inl gf)), (mn, .inl (jn, 100, .inl gn))] s.heap.size = A at hD ⊢
  have hA : ∀ q : Nat, s.heap.size ≤ q → A q := fun q h => by rw [← hAe]; exact Or.inr h
  have hS : va_S A s.heap s.heap [] := va_S.rf
  generalize hQ : MQ below _ args s _ _ _ = Q
  change W p l e rm_m_signs s m args below meth c s.heap [] 0 0 Q (entryFrame m args 3)
  have hl := lv_entry ([.ref mo]) (n := 3) (Nat.le_of_ble_eq_true rfl)
  rw [show entryFrame m args 3 = entryFrame m ([.ref mo] : List Value).toArray 3 from by rw [hargs], lg_entry_eq]
  generalize (lg_sl ([.ref mo]) ++ List.replicate (3 - (lg_sl ([.ref mo])).length) Slot.unset).toArray = ls at hl ⊢
  have hl : lv_has ls 3 [(0, .ref mo)] := hl
  refine lv_aload_n hx hb dX4_findSigns_0 rfl (lv_at hl 0 rfl) ?_
  refine lv_iconst (v := 0) hx hb dX4_findSigns_1 (by decide) ?_
  refine lv_topi (fun x1 ex1 => ?_)
  obtain rfl : x1 = nI 0 := by rw [ex1]; exact nI_0.symm
  refine va_put (D := (dC, dI)) (ci := 4) (v := .int (nI 0)) (ty := .int) (C := RX4) (T := TX4) (N := 12) hx hb hw inX4 tyX4 tyX4_ok nmX4 hown hK hP hD hS 0 rfl rfl 5 (by decide) (hw _ mw249) (fun _ h9 => h9) rfl (by decide +kernel) rfl rfl (Nat.le_of_ble_eq_true rfl) dX4_findSigns_2 (fun H locs hP hD hS => ?_)
  have hP : va_P (dC, dI) cl5 [(mo, .inr (4, [.int (th), .ref mv, .ref mk, .int (nI nv), .int (nI nk), .int (nI 0), .ref ms, .ref ml, .ref mc, .int (nI ct), .ref mf, .ref mn])), (mv, .inl (jv, 100, .inl fv)), (mk, .inl (jk, 100, .inl fk)), (ms, .inl (js, 100, .inl gs)), (ml, .inl (jl, 100, .inl gl)), (mc, .inl (jc, 10201, .inl gc)), (mf, .inl (jf, 100, .inl gf)), (mn, .inl (jn, 100, .inl gn))] H := hP
  have hD : va_D A [(mo, .inr (4, [.int (th), .ref mv, .ref mk, .int (nI nv), .int (nI nk), .int (nI 0), .ref ms, .ref ml, .ref mc, .int (nI ct), .ref mf, .ref mn])), (mv, .inl (jv, 100, .inl fv)), (mk, .inl (jk, 100, .inl fk)), (ms, .inl (js, 100, .inl gs)), (ml, .inl (jl, 100, .inl gl)), (mc, .inl (jc, 10201, .inl gc)), (mf, .inl (jf, 100, .inl gf)), (mn, .inl (jn, 100, .inl gn))] := hD
  refine lv_iconst (v := 0) hx hb dX4_findSigns_5 (by decide) ?_
  refine lv_topi (fun x2 ex2 => ?_)
  obtain rfl : x2 = nI 0 := by rw [ex2]; exact nI_0.symm
  refine lv_istore_n (lv' := [(1, .int (nI 0)), (0, .ref mo)]) hx hb dX4_findSigns_6 rfl hl (by decide) rfl (fun ls hl => ?_)
  have loop7 : ∀ (nn7 : Nat) (i r p1 : Nat) (acc : List Int32) (w1 w2 : Nat → Int32) (hr9 : nk ≤ r + i) (hp9 : p1 = acc.length) (e9 : acc ++ mkL fk nk r i = mkL fk nk nk 0) (e7 : srl w1 w2 acc) (hpi : p1 ≤ i) (hpi2 : i ≤ nk) (_ : nk - i < nn7) (H : Heap) (locs : List Loc) (_ : va_P (dC, dI) cl5 [(mo, .inr (4, [.int (th), .ref mv, .ref mk, .int (nI nv), .int (nI nk), .int (nI p1), .ref ms, .ref ml, .ref mc, .int (nI ct), .ref mf, .ref mn])), (mv, .inl (jv, 100, .inl fv)), (mk, .inl (jk, 100, .inl fk)), (ms, .inl (js, 100, .inl w1)), (ml, .inl (jl, 100, .inl w2)), (mc, .inl (jc, 10201, .inl gc)), (mf, .inl (jf, 100, .inl gf)), (mn, .inl (jn, 100, .inl gn))] H) (_ : va_D A [(mo, .inr (4, [.int (th), .ref mv, .ref mk, .int (nI nv), .int (nI nk), .int (nI p1), .ref ms, .ref ml, .ref mc, .int (nI ct), .ref mf, .ref mn])), (mv, .inl (jv, 100, .inl fv)), (mk, .inl (jk, 100, .inl fk)), (ms, .inl (js, 100, .inl w1)), (ml, .inl (jl, 100, .inl w2)), (mc, .inl (jc, 10201, .inl gc)), (mf, .inl (jf, 100, .inl gf)), (mn, .inl (jn, 100, .inl gn))]) (_ : va_S A s.heap H locs) (ls : Array Slot) (_ : lv_has ls 3 [(0, .ref mo), (1, .int (nI i))]), W p l e rm_m_signs s m args below meth c H locs 0 0 Q (F0 m 7 ls []) := by
    intro nn7
    induction nn7 with
    | zero => intro i r p1 acc w1 w2 hr9 hp9 e9 e7 hpi hpi2 hm7 H locs hP hD hS ls hl; exact absurd hm7 (Nat.not_lt_zero _)
    | succ nn7 ih7 =>
      intro i r p1 acc w1 w2 hr9 hp9 e9 e7 hpi hpi2 hm7 H locs hP hD hS ls hl
      refine lv_iload_n hx hb dX4_findSigns_7 rfl (lv_at hl 1 rfl) ?_
      refine lv_aload_n hx hb dX4_findSigns_8 rfl (lv_at hl 0 rfl) ?_
      refine va_get (D := (dC, dI)) (ci := 4) (v := .int (nI nk)) (C := RX4) (T := TX4) (N := 12) hx hb hw inX4 hown hK hP 0 rfl rfl 4 (by decide) (hw _ mw248) (fun _ h9 => h9) rfl dX4_findSigns_9 ?_
      refine lv_icmp_ge (tgt := 128) hx hb dX4_findSigns_12 (by decide) (fun c12_2 => ?_) (fun c12_2 => ?_)
      · skip
        rw [ti_le, nI_toInt (by omega), nI_toInt (by omega)] at c12_2
        subst hQ
        exact W.vret hx hb hr (fun t ht hW => ⟨⟨(w1, w2, p1), rfl, by rw [mkL_end (by omega), List.append_nil] at e9; subst e9; exact ⟨hp9, by show p1 ≤ nk; omega, fun j hj => e7 j (by rw [← hp9]; exact hj)⟩, by rw [ht]; exact hP, hD⟩, hS.F ht⟩) hS.2.2 dX4_findSigns_128
      · skip
        rw [ti_le, nI_toInt (by omega), nI_toInt (by omega)] at c12_2
        refine lv_aload_n hx hb dX4_findSigns_15 rfl (lv_at hl 0 rfl) ?_
        refine va_get (D := (dC, dI)) (ci := 4) (v := .ref mk) (C := RX4) (T := TX4) (N := 12) hx hb hw inX4 hown hK hP 0 rfl rfl 2 (by decide) (hw _ mw246) (fun _ h9 => h9) rfl dX4_findSigns_16 ?_
        refine lv_iload_n hx hb dX4_findSigns_19 rfl (lv_at hl 1 rfl) ?_
        refine va_iald hx hb hK hP 2 1 rfl rfl (i := (nI i)) (vp_in_nI (by omega) (by omega)) dX4_findSigns_20 ?_
        refine lv_topi (fun x4 ex4 => ?_)
        obtain rfl : x4 = fk i := by rw [ex4, nI_clamp (by omega)]
        refine lv_bipush (v := 92) hx hb dX4_findSigns_21 (by decide) ?_
        refine lv_icmp_ne (tgt := 40) hx hb dX4_findSigns_23 (by decide) (fun c23_4 => ?_) (fun c23_4 => ?_)
        · skip
          have z0 : ¬ (fk i = 92 ∧ i + 1 < nk) := fun q => c23_4 q.1
          refine lv_iconst (v := 0) hx hb dX4_findSigns_40 (by decide) ?_
          refine lv_istore_n (lv' := [(2, .int (0)), (0, .ref mo), (1, .int (nI i))]) hx hb dX4_findSigns_41 rfl hl (by decide) rfl (fun ls hl => ?_)
          refine lv_iload_n hx hb dX4_findSigns_42 rfl (lv_at hl 0 rfl) ?_
          refine lv_if_eq (tgt := 49) hx hb dX4_findSigns_43 (by decide) (fun c43_5 => ?_) (fun c43_5 => ?_)
          · skip
            refine lv_aload_n hx hb dX4_findSigns_49 rfl (lv_at hl 1 rfl) ?_
            refine va_get (D := (dC, dI)) (ci := 4) (v := .ref ms) (C := RX4) (T := TX4) (N := 12) hx hb hw inX4 hown hK hP 0 rfl rfl 6 (by decide) (hw _ mw250) (fun _ h9 => h9) rfl dX4_findSigns_50 ?_
            refine lv_aload_n hx hb dX4_findSigns_53 rfl (lv_at hl 1 rfl) ?_
            refine va_get (D := (dC, dI)) (ci := 4) (v := .int (nI p1)) (C := RX4) (T := TX4) (N := 12) hx hb hw inX4 hown hK hP 0 rfl rfl 5 (by decide) (hw _ mw249) (fun _ h9 => h9) rfl dX4_findSigns_54 ?_
            refine lv_iload_n hx hb dX4_findSigns_57 rfl (lv_at hl 0 rfl) ?_
            refine lv_if_eq (tgt := 65) hx hb dX4_findSigns_58 (by decide) (fun c58_6 => ?_) (fun c58_6 => ?_)
            · skip
              refine lv_aload_n hx hb dX4_findSigns_65 rfl (lv_at hl 1 rfl) ?_
              refine va_get (D := (dC, dI)) (ci := 4) (v := .ref mk) (C := RX4) (T := TX4) (N := 12) hx hb hw inX4 hown hK hP 0 rfl rfl 2 (by decide) (hw _ mw246) (fun _ h9 => h9) rfl dX4_findSigns_66 ?_
              refine lv_iload_n hx hb dX4_findSigns_69 rfl (lv_at hl 2 rfl) ?_
              refine va_iald hx hb hK hP 2 1 rfl rfl (i := (nI i)) (vp_in_nI (by omega) (by omega)) dX4_findSigns_70 ?_
              refine lv_topi (fun x8 ex8 => ?_)
              obtain rfl : x8 = fk i := by rw [ex8, nI_clamp (by omega)]
              refine lv_bipush (v := 63) hx hb dX4_findSigns_71 (by decide) ?_
              refine lv_icmp_ne (tgt := 80) hx hb dX4_findSigns_73 (by decide) (fun c73_8 => ?_) (fun c73_8 => ?_)
              · skip
                have z3 := c73_8
                refine lv_aload_n hx hb dX4_findSigns_80 rfl (lv_at hl 1 rfl) ?_
                refine va_get (D := (dC, dI)) (ci := 4) (v := .ref mk) (C := RX4) (T := TX4) (N := 12) hx hb hw inX4 hown hK hP 0 rfl rfl 2 (by decide) (hw _ mw246) (fun _ h9 => h9) rfl dX4_findSigns_81 ?_
                refine lv_iload_n hx hb dX4_findSigns_84 rfl (lv_at hl 2 rfl) ?_
                refine va_iald hx hb hK hP 2 1 rfl rfl (i := (nI i)) (vp_in_nI (by omega) (by omega)) dX4_findSigns_85 ?_
                refine lv_topi (fun x10 ex10 => ?_)
                obtain rfl : x10 = fk i := by rw [ex10, nI_clamp (by omega)]
                refine lv_bipush (v := 42) hx hb dX4_findSigns_86 (by decide) ?_
                refine lv_icmp_ne (tgt := 95) hx hb dX4_findSigns_88 (by decide) (fun c88_10 => ?_) (fun c88_10 => ?_)
                · skip
                  have z2 := c88_10
                  refine lv_iconst (v := 0) hx hb dX4_findSigns_95 (by decide) ?_
                  refine va_iast hx hb hK hP hD hS 3 2 rfl rfl (i := (nI p1)) (vp_in_nI (by omega) (by omega)) dX4_findSigns_96 (fun H locs hP hD hS => ?_)
                  rw [nI_clamp (by omega)] at hP hD
                  have hP : va_P (dC, dI) cl5 [(mo, .inr (4, [.int (th), .ref mv, .ref mk, .int (nI nv), .int (nI nk), .int (nI p1), .ref ms, .ref ml, .ref mc, .int (nI ct), .ref mf, .ref mn])), (mv, .inl (jv, 100, .inl fv)), (mk, .inl (jk, 100, .inl fk)), (ms, .inl (js, 100, .inl (upd w1 p1 (0)))), (ml, .inl (jl, 100, .inl w2)), (mc, .inl (jc, 10201, .inl gc)), (mf, .inl (jf, 100, .inl gf)), (mn, .inl (jn, 100, .inl gn))] H := hP
                  have hD : va_D A [(mo, .inr (4, [.int (th), .ref mv, .ref mk, .int (nI nv), .int (nI nk), .int (nI p1), .ref ms, .ref ml, .ref mc, .int (nI ct), .ref mf, .ref mn])), (mv, .inl (jv, 100, .inl fv)), (mk, .inl (jk, 100, .inl fk)), (ms, .inl (js, 100, .inl (upd w1 p1 (0)))), (ml, .inl (jl, 100, .inl w2)), (mc, .inl (jc, 10201, .inl gc)), (mf, .inl (jf, 100, .inl gf)), (mn, .inl (jn, 100, .inl gn))] := hD
                  refine lv_aload_n hx hb dX4_findSigns_97 rfl (lv_at hl 1 rfl) ?_
                  refine va_get (D := (dC, dI)) (ci := 4) (v := .ref ml) (C := RX4) (T := TX4) (N := 12) hx hb hw inX4 hown hK hP 0 rfl rfl 7 (by decide) (hw _ mw251) (fun _ h9 => h9) rfl dX4_findSigns_98 ?_
                  refine lv_aload_n hx hb dX4_findSigns_101 rfl (lv_at hl 1 rfl) ?_
                  refine va_get (D := (dC, dI)) (ci := 4) (v := .int (nI p1)) (C := RX4) (T := TX4) (N := 12) hx hb hw inX4 hown hK hP 0 rfl rfl 5 (by decide) (hw _ mw249) (fun _ h9 => h9) rfl dX4_findSigns_102 ?_
                  refine lv_aload_n hx hb dX4_findSigns_105 rfl (lv_at hl 1 rfl) ?_
                  refine va_get (D := (dC, dI)) (ci := 4) (v := .ref mk) (C := RX4) (T := TX4) (N := 12) hx hb hw inX4 hown hK hP 0 rfl rfl 2 (by decide) (hw _ mw246) (fun _ h9 => h9) rfl dX4_findSigns_106 ?_
                  refine lv_iload_n hx hb dX4_findSigns_109 rfl (lv_at hl 2 rfl) ?_
                  refine va_iald hx hb hK hP 2 1 rfl rfl (i := (nI i)) (vp_in_nI (by omega) (by omega)) dX4_findSigns_110 ?_
                  refine lv_topi (fun x12 ex12 => ?_)
                  obtain rfl : x12 = fk i := by rw [ex12, nI_clamp (by omega)]
                  refine va_iast hx hb hK hP hD hS 4 3 rfl rfl (i := (nI p1)) (vp_in_nI (by omega) (by omega)) dX4_findSigns_111 (fun H locs hP hD hS => ?_)
                  rw [nI_clamp (by omega)] at hP hD
                  have hP : va_P (dC, dI) cl5 [(mo, .inr (4, [.int (th), .ref mv, .ref mk, .int (nI nv), .int (nI nk), .int (nI p1), .ref ms, .ref ml, .ref mc, .int (nI ct), .ref mf, .ref mn])), (mv, .inl (jv, 100, .inl fv)), (mk, .inl (jk, 100, .inl fk)), (ms, .inl (js, 100, .inl (upd w1 p1 (0)))), (ml, .inl (jl, 100, .inl (upd w2 p1 (fk i)))), (mc, .inl (jc, 10201, .inl gc)), (mf, .inl (jf, 100, .inl gf)), (mn, .inl (jn, 100, .inl gn))] H := hP
                  have hD : va_D A [(mo, .inr (4, [.int (th), .ref mv, .ref mk, .int (nI nv), .int (nI nk), .int (nI p1), .ref ms, .ref ml, .ref mc, .int (nI ct), .ref mf, .ref mn])), (mv, .inl (jv, 100, .inl fv)), (mk, .inl (jk, 100, .inl fk)), (ms, .inl (js, 100, .inl (upd w1 p1 (0)))), (ml, .inl (jl, 100, .inl (upd w2 p1 (fk i)))), (mc, .inl (jc, 10201, .inl gc)), (mf, .inl (jf, 100, .inl gf)), (mn, .inl (jn, 100, .inl gn))] := hD
                  refine lv_aload_n hx hb dX4_findSigns_112 rfl (lv_at hl 1 rfl) ?_
                  refine lv_dup hx hb dX4_findSigns_113 rfl ?_
                  refine va_get (D := (dC, dI)) (ci := 4) (v := .int (nI p1)) (C := RX4) (T := TX4) (N := 12) hx hb hw inX4 hown hK hP 0 rfl rfl 5 (by decide) (hw _ mw249) (fun _ h9 => h9) rfl dX4_findSigns_114 ?_
                  refine lv_iconst (v := 1) hx hb dX4_findSigns_117 (by decide) ?_
                  refine lv_iadd hx hb dX4_findSigns_118 ?_
                  refine lv_topi (fun x13 ex13 => ?_)
                  obtain rfl : x13 = nI (p1 + 1) := by rw [ex13]; exact nI_1 p1
                  refine va_put (D := (dC, dI)) (ci := 4) (v := .int (nI (p1 + 1))) (ty := .int) (C := RX4) (T := TX4) (N := 12) hx hb hw inX4 tyX4 tyX4_ok nmX4 hown hK hP hD hS 0 rfl rfl 5 (by decide) (hw _ mw249) (fun _ h9 => h9) rfl (by decide +kernel) rfl rfl (Nat.le_of_ble_eq_true rfl) dX4_findSigns_119 (fun H locs hP hD hS => ?_)
                  have hP : va_P (dC, dI) cl5 [(mo, .inr (4, [.int (th), .ref mv, .ref mk, .int (nI nv), .int (nI nk), .int (nI (p1 + 1)), .ref ms, .ref ml, .ref mc, .int (nI ct), .ref mf, .ref mn])), (mv, .inl (jv, 100, .inl fv)), (mk, .inl (jk, 100, .inl fk)), (ms, .inl (js, 100, .inl (upd w1 p1 (0)))), (ml, .inl (jl, 100, .inl (upd w2 p1 (fk i)))), (mc, .inl (jc, 10201, .inl gc)), (mf, .inl (jf, 100, .inl gf)), (mn, .inl (jn, 100, .inl gn))] H := hP
                  have hD : va_D A [(mo, .inr (4, [.int (th), .ref mv, .ref mk, .int (nI nv), .int (nI nk), .int (nI (p1 + 1)), .ref ms, .ref ml, .ref mc, .int (nI ct), .ref mf, .ref mn])), (mv, .inl (jv, 100, .inl fv)), (mk, .inl (jk, 100, .inl fk)), (ms, .inl (js, 100, .inl (upd w1 p1 (0)))), (ml, .inl (jl, 100, .inl (upd w2 p1 (fk i)))), (mc, .inl (jc, 10201, .inl gc)), (mf, .inl (jf, 100, .inl gf)), (mn, .inl (jn, 100, .inl gn))] := hD
                  refine lv_iinc (v := nI (i + 1)) (lv' := [(1, .int (nI (i + 1))), (2, .int (0)), (0, .ref mo)]) hx hb dX4_findSigns_122 hl (k := 2) rfl (nI_inc i) (by decide) rfl (fun ls hl => ?_)
                  refine lv_goto (tgt := 7) hx hb dX4_findSigns_125 (by decide) ?_
                  exact ih7 (i + 1) (r - 1) (p1 + 1) (acc ++ [fk i]) _ _ (by omega) (by rw [List.length_append, List.length_singleton, hp9]) (by rw [List.append_assoc, ← e9, mkL_one z0 (by omega) hr9, if_neg z2, if_neg z3]; rfl) (srl_add e7 hp9 (Or.inr (Or.inr ⟨rfl, rfl, hrk i (by omega)⟩))) (by omega) (by omega) (by omega) H locs hP hD hS ls (lv_sub hl [2, 0] rfl)
                · skip
                  have z2 := c88_10
                  refine lv_iconst (v := 2) hx hb dX4_findSigns_91 (by decide) ?_
                  refine lv_goto (tgt := 96) hx hb dX4_findSigns_92 (by decide) ?_
                  refine va_iast hx hb hK hP hD hS 3 2 rfl rfl (i := (nI p1)) (vp_in_nI (by omega) (by omega)) dX4_findSigns_96 (fun H locs hP hD hS => ?_)
                  rw [nI_clamp (by omega)] at hP hD
                  have hP : va_P (dC, dI) cl5 [(mo, .inr (4, [.int (th), .ref mv, .ref mk, .int (nI nv), .int (nI nk), .int (nI p1), .ref ms, .ref ml, .ref mc, .int (nI ct), .ref mf, .ref mn])), (mv, .inl (jv, 100, .inl fv)), (mk, .inl (jk, 100, .inl fk)), (ms, .inl (js, 100, .inl (upd w1 p1 (2)))), (ml, .inl (jl, 100, .inl w2)), (mc, .inl (jc, 10201, .inl gc)), (mf, .inl (jf, 100, .inl gf)), (mn, .inl (jn, 100, .inl gn))] H := hP
                  have hD : va_D A [(mo, .inr (4, [.int (th), .ref mv, .ref mk, .int (nI nv), .int (nI nk), .int (nI p1), .ref ms, .ref ml, .ref mc, .int (nI ct), .ref mf, .ref mn])), (mv, .inl (jv, 100, .inl fv)), (mk, .inl (jk, 100, .inl fk)), (ms, .inl (js, 100, .inl (upd w1 p1 (2)))), (ml, .inl (jl, 100, .inl w2)), (mc, .inl (jc, 10201, .inl gc)), (mf, .inl (jf, 100, .inl gf)), (mn, .inl (jn, 100, .inl gn))] := hD
                  refine lv_aload_n hx hb dX4_findSigns_97 rfl (lv_at hl 1 rfl) ?_
                  refine va_get (D := (dC, dI)) (ci := 4) (v := .ref ml) (C := RX4) (T := TX4) (N := 12) hx hb hw inX4 hown hK hP 0 rfl rfl 7 (by decide) (hw _ mw251) (fun _ h9 => h9) rfl dX4_findSigns_98 ?_
                  refine lv_aload_n hx hb dX4_findSigns_101 rfl (lv_at hl 1 rfl) ?_
                  refine va_get (D := (dC, dI)) (ci := 4) (v := .int (nI p1)) (C := RX4) (T := TX4) (N := 12) hx hb hw inX4 hown hK hP 0 rfl rfl 5 (by decide) (hw _ mw249) (fun _ h9 => h9) rfl dX4_findSigns_102 ?_
                  refine lv_aload_n hx hb dX4_findSigns_105 rfl (lv_at hl 1 rfl) ?_
                  refine va_get (D := (dC, dI)) (ci := 4) (v := .ref mk) (C := RX4) (T := TX4) (N := 12) hx hb hw inX4 hown hK hP 0 rfl rfl 2 (by decide) (hw _ mw246) (fun _ h9 => h9) rfl dX4_findSigns_106 ?_
                  refine lv_iload_n hx hb dX4_findSigns_109 rfl (lv_at hl 2 rfl) ?_
                  refine va_iald hx hb hK hP 2 1 rfl rfl (i := (nI i)) (vp_in_nI (by omega) (by omega)) dX4_findSigns_110 ?_
                  refine lv_topi (fun x14 ex14 => ?_)
                  obtain rfl : x14 = fk i := by rw [ex14, nI_clamp (by omega)]
                  refine va_iast hx hb hK hP hD hS 4 3 rfl rfl (i := (nI p1)) (vp_in_nI (by omega) (by omega)) dX4_findSigns_111 (fun H locs hP hD hS => ?_)
                  rw [nI_clamp (by omega)] at hP hD
                  have hP : va_P (dC, dI) cl5 [(mo, .inr (4, [.int (th), .ref mv, .ref mk, .int (nI nv), .int (nI nk), .int (nI p1), .ref ms, .ref ml, .ref mc, .int (nI ct), .ref mf, .ref mn])), (mv, .inl (jv, 100, .inl fv)), (mk, .inl (jk, 100, .inl fk)), (ms, .inl (js, 100, .inl (upd w1 p1 (2)))), (ml, .inl (jl, 100, .inl (upd w2 p1 (fk i)))), (mc, .inl (jc, 10201, .inl gc)), (mf, .inl (jf, 100, .inl gf)), (mn, .inl (jn, 100, .inl gn))] H := hP
                  have hD : va_D A [(mo, .inr (4, [.int (th), .ref mv, .ref mk, .int (nI nv), .int (nI nk), .int (nI p1), .ref ms, .ref ml, .ref mc, .int (nI ct), .ref mf, .ref mn])), (mv, .inl (jv, 100, .inl fv)), (mk, .inl (jk, 100, .inl fk)), (ms, .inl (js, 100, .inl (upd w1 p1 (2)))), (ml, .inl (jl, 100, .inl (upd w2 p1 (fk i)))), (mc, .inl (jc, 10201, .inl gc)), (mf, .inl (jf, 100, .inl gf)), (mn, .inl (jn, 100, .inl gn))] := hD
                  refine lv_aload_n hx hb dX4_findSigns_112 rfl (lv_at hl 1 rfl) ?_
                  refine lv_dup hx hb dX4_findSigns_113 rfl ?_
                  refine va_get (D := (dC, dI)) (ci := 4) (v := .int (nI p1)) (C := RX4) (T := TX4) (N := 12) hx hb hw inX4 hown hK hP 0 rfl rfl 5 (by decide) (hw _ mw249) (fun _ h9 => h9) rfl dX4_findSigns_114 ?_
                  refine lv_iconst (v := 1) hx hb dX4_findSigns_117 (by decide) ?_
                  refine lv_iadd hx hb dX4_findSigns_118 ?_
                  refine lv_topi (fun x15 ex15 => ?_)
                  obtain rfl : x15 = nI (p1 + 1) := by rw [ex15]; exact nI_1 p1
                  refine va_put (D := (dC, dI)) (ci := 4) (v := .int (nI (p1 + 1))) (ty := .int) (C := RX4) (T := TX4) (N := 12) hx hb hw inX4 tyX4 tyX4_ok nmX4 hown hK hP hD hS 0 rfl rfl 5 (by decide) (hw _ mw249) (fun _ h9 => h9) rfl (by decide +kernel) rfl rfl (Nat.le_of_ble_eq_true rfl) dX4_findSigns_119 (fun H locs hP hD hS => ?_)
                  have hP : va_P (dC, dI) cl5 [(mo, .inr (4, [.int (th), .ref mv, .ref mk, .int (nI nv), .int (nI nk), .int (nI (p1 + 1)), .ref ms, .ref ml, .ref mc, .int (nI ct), .ref mf, .ref mn])), (mv, .inl (jv, 100, .inl fv)), (mk, .inl (jk, 100, .inl fk)), (ms, .inl (js, 100, .inl (upd w1 p1 (2)))), (ml, .inl (jl, 100, .inl (upd w2 p1 (fk i)))), (mc, .inl (jc, 10201, .inl gc)), (mf, .inl (jf, 100, .inl gf)), (mn, .inl (jn, 100, .inl gn))] H := hP
                  have hD : va_D A [(mo, .inr (4, [.int (th), .ref mv, .ref mk, .int (nI nv), .int (nI nk), .int (nI (p1 + 1)), .ref ms, .ref ml, .ref mc, .int (nI ct), .ref mf, .ref mn])), (mv, .inl (jv, 100, .inl fv)), (mk, .inl (jk, 100, .inl fk)), (ms, .inl (js, 100, .inl (upd w1 p1 (2)))), (ml, .inl (jl, 100, .inl (upd w2 p1 (fk i)))), (mc, .inl (jc, 10201, .inl gc)), (mf, .inl (jf, 100, .inl gf)), (mn, .inl (jn, 100, .inl gn))] := hD
                  refine lv_iinc (v := nI (i + 1)) (lv' := [(1, .int (nI (i + 1))), (2, .int (0)), (0, .ref mo)]) hx hb dX4_findSigns_122 hl (k := 2) rfl (nI_inc i) (by decide) rfl (fun ls hl => ?_)
                  refine lv_goto (tgt := 7) hx hb dX4_findSigns_125 (by decide) ?_
                  exact ih7 (i + 1) (r - 1) (p1 + 1) (acc ++ [257]) _ _ (by omega) (by rw [List.length_append, List.length_singleton, hp9]) (by rw [List.append_assoc, ← e9, mkL_one z0 (by omega) hr9, if_pos (by first | exact z2 | exact Decidable.not_not.mp z2)]; rfl) (srl_add e7 hp9 (Or.inl ⟨rfl, rfl⟩)) (by omega) (by omega) (by omega) H locs hP hD hS ls (lv_sub hl [2, 0] rfl)
              · skip
                have z3 := c73_8
                have z2 : ¬ fk i = 42 := by rw [(show fk i = 63 from by first | exact c73_8 | exact Decidable.not_not.mp c73_8)]; decide
                refine lv_iconst (v := 1) hx hb dX4_findSigns_76 (by decide) ?_
                refine lv_goto (tgt := 96) hx hb dX4_findSigns_77 (by decide) ?_
                refine va_iast hx hb hK hP hD hS 3 2 rfl rfl (i := (nI p1)) (vp_in_nI (by omega) (by omega)) dX4_findSigns_96 (fun H locs hP hD hS => ?_)
                rw [nI_clamp (by omega)] at hP hD
                have hP : va_P (dC, dI) cl5 [(mo, .inr (4, [.int (th), .ref mv, .ref mk, .int (nI nv), .int (nI nk), .int (nI p1), .ref ms, .ref ml, .ref mc, .int (nI ct), .ref mf, .ref mn])), (mv, .inl (jv, 100, .inl fv)), (mk, .inl (jk, 100, .inl fk)), (ms, .inl (js, 100, .inl (upd w1 p1 (1)))), (ml, .inl (jl, 100, .inl w2)), (mc, .inl (jc, 10201, .inl gc)), (mf, .inl (jf, 100, .inl gf)), (mn, .inl (jn, 100, .inl gn))] H := hP
                have hD : va_D A [(mo, .inr (4, [.int (th), .ref mv, .ref mk, .int (nI nv), .int (nI nk), .int (nI p1), .ref ms, .ref ml, .ref mc, .int (nI ct), .ref mf, .ref mn])), (mv, .inl (jv, 100, .inl fv)), (mk, .inl (jk, 100, .inl fk)), (ms, .inl (js, 100, .inl (upd w1 p1 (1)))), (ml, .inl (jl, 100, .inl w2)), (mc, .inl (jc, 10201, .inl gc)), (mf, .inl (jf, 100, .inl gf)), (mn, .inl (jn, 100, .inl gn))] := hD
                refine lv_aload_n hx hb dX4_findSigns_97 rfl (lv_at hl 1 rfl) ?_
                refine va_get (D := (dC, dI)) (ci := 4) (v := .ref ml) (C := RX4) (T := TX4) (N := 12) hx hb hw inX4 hown hK hP 0 rfl rfl 7 (by decide) (hw _ mw251) (fun _ h9 => h9) rfl dX4_findSigns_98 ?_
                refine lv_aload_n hx hb dX4_findSigns_101 rfl (lv_at hl 1 rfl) ?_
                refine va_get (D := (dC, dI)) (ci := 4) (v := .int (nI p1)) (C := RX4) (T := TX4) (N := 12) hx hb hw inX4 hown hK hP 0 rfl rfl 5 (by decide) (hw _ mw249) (fun _ h9 => h9) rfl dX4_findSigns_102 ?_
                refine lv_aload_n hx hb dX4_findSigns_105 rfl (lv_at hl 1 rfl) ?_
                refine va_get (D := (dC, dI)) (ci := 4) (v := .ref mk) (C := RX4) (T := TX4) (N := 12) hx hb hw inX4 hown hK hP 0 rfl rfl 2 (by decide) (hw _ mw246) (fun _ h9 => h9) rfl dX4_findSigns_106 ?_
                refine lv_iload_n hx hb dX4_findSigns_109 rfl (lv_at hl 2 rfl) ?_
                refine va_iald hx hb hK hP 2 1 rfl rfl (i := (nI i)) (vp_in_nI (by omega) (by omega)) dX4_findSigns_110 ?_
                refine lv_topi (fun x16 ex16 => ?_)
                obtain rfl : x16 = fk i := by rw [ex16, nI_clamp (by omega)]
                refine va_iast hx hb hK hP hD hS 4 3 rfl rfl (i := (nI p1)) (vp_in_nI (by omega) (by omega)) dX4_findSigns_111 (fun H locs hP hD hS => ?_)
                rw [nI_clamp (by omega)] at hP hD
                have hP : va_P (dC, dI) cl5 [(mo, .inr (4, [.int (th), .ref mv, .ref mk, .int (nI nv), .int (nI nk), .int (nI p1), .ref ms, .ref ml, .ref mc, .int (nI ct), .ref mf, .ref mn])), (mv, .inl (jv, 100, .inl fv)), (mk, .inl (jk, 100, .inl fk)), (ms, .inl (js, 100, .inl (upd w1 p1 (1)))), (ml, .inl (jl, 100, .inl (upd w2 p1 (fk i)))), (mc, .inl (jc, 10201, .inl gc)), (mf, .inl (jf, 100, .inl gf)), (mn, .inl (jn, 100, .inl gn))] H := hP
                have hD : va_D A [(mo, .inr (4, [.int (th), .ref mv, .ref mk, .int (nI nv), .int (nI nk), .int (nI p1), .ref ms, .ref ml, .ref mc, .int (nI ct), .ref mf, .ref mn])), (mv, .inl (jv, 100, .inl fv)), (mk, .inl (jk, 100, .inl fk)), (ms, .inl (js, 100, .inl (upd w1 p1 (1)))), (ml, .inl (jl, 100, .inl (upd w2 p1 (fk i)))), (mc, .inl (jc, 10201, .inl gc)), (mf, .inl (jf, 100, .inl gf)), (mn, .inl (jn, 100, .inl gn))] := hD
                refine lv_aload_n hx hb dX4_findSigns_112 rfl (lv_at hl 1 rfl) ?_
                refine lv_dup hx hb dX4_findSigns_113 rfl ?_
                refine va_get (D := (dC, dI)) (ci := 4) (v := .int (nI p1)) (C := RX4) (T := TX4) (N := 12) hx hb hw inX4 hown hK hP 0 rfl rfl 5 (by decide) (hw _ mw249) (fun _ h9 => h9) rfl dX4_findSigns_114 ?_
                refine lv_iconst (v := 1) hx hb dX4_findSigns_117 (by decide) ?_
                refine lv_iadd hx hb dX4_findSigns_118 ?_
                refine lv_topi (fun x17 ex17 => ?_)
                obtain rfl : x17 = nI (p1 + 1) := by rw [ex17]; exact nI_1 p1
                refine va_put (D := (dC, dI)) (ci := 4) (v := .int (nI (p1 + 1))) (ty := .int) (C := RX4) (T := TX4) (N := 12) hx hb hw inX4 tyX4 tyX4_ok nmX4 hown hK hP hD hS 0 rfl rfl 5 (by decide) (hw _ mw249) (fun _ h9 => h9) rfl (by decide +kernel) rfl rfl (Nat.le_of_ble_eq_true rfl) dX4_findSigns_119 (fun H locs hP hD hS => ?_)
                have hP : va_P (dC, dI) cl5 [(mo, .inr (4, [.int (th), .ref mv, .ref mk, .int (nI nv), .int (nI nk), .int (nI (p1 + 1)), .ref ms, .ref ml, .ref mc, .int (nI ct), .ref mf, .ref mn])), (mv, .inl (jv, 100, .inl fv)), (mk, .inl (jk, 100, .inl fk)), (ms, .inl (js, 100, .inl (upd w1 p1 (1)))), (ml, .inl (jl, 100, .inl (upd w2 p1 (fk i)))), (mc, .inl (jc, 10201, .inl gc)), (mf, .inl (jf, 100, .inl gf)), (mn, .inl (jn, 100, .inl gn))] H := hP
                have hD : va_D A [(mo, .inr (4, [.int (th), .ref mv, .ref mk, .int (nI nv), .int (nI nk), .int (nI (p1 + 1)), .ref ms, .ref ml, .ref mc, .int (nI ct), .ref mf, .ref mn])), (mv, .inl (jv, 100, .inl fv)), (mk, .inl (jk, 100, .inl fk)), (ms, .inl (js, 100, .inl (upd w1 p1 (1)))), (ml, .inl (jl, 100, .inl (upd w2 p1 (fk i)))), (mc, .inl (jc, 10201, .inl gc)), (mf, .inl (jf, 100, .inl gf)), (mn, .inl (jn, 100, .inl gn))] := hD
                refine lv_iinc (v := nI (i + 1)) (lv' := [(1, .int (nI (i + 1))), (2, .int (0)), (0, .ref mo)]) hx hb dX4_findSigns_122 hl (k := 2) rfl (nI_inc i) (by decide) rfl (fun ls hl => ?_)
                refine lv_goto (tgt := 7) hx hb dX4_findSigns_125 (by decide) ?_
                exact ih7 (i + 1) (r - 1) (p1 + 1) (acc ++ [256]) _ _ (by omega) (by rw [List.length_append, List.length_singleton, hp9]) (by rw [List.append_assoc, ← e9, mkL_one z0 (by omega) hr9, if_neg z2, if_pos (by first | exact z3 | exact Decidable.not_not.mp z3)]; rfl) (srl_add e7 hp9 (Or.inr (Or.inl ⟨rfl, rfl⟩))) (by omega) (by omega) (by omega) H locs hP hD hS ls (lv_sub hl [2, 0] rfl)
            · skip
              exact absurd rfl c58_6
          · skip
            exact absurd rfl c43_5
        · skip
          have z1 := c23_4
          refine lv_iload_n hx hb dX4_findSigns_26 rfl (lv_at hl 1 rfl) ?_
          refine lv_iconst (v := 1) hx hb dX4_findSigns_27 (by decide) ?_
          refine lv_iadd hx hb dX4_findSigns_28 ?_
          refine lv_topi (fun x18 ex18 => ?_)
          obtain rfl : x18 = nI (i + 1) := by rw [ex18]; exact nI_1 i
          refine lv_aload_n hx hb dX4_findSigns_29 rfl (lv_at hl 0 rfl) ?_
          refine va_get (D := (dC, dI)) (ci := 4) (v := .int (nI nk)) (C := RX4) (T := TX4) (N := 12) hx hb hw inX4 hown hK hP 0 rfl rfl 4 (by decide) (hw _ mw248) (fun _ h9 => h9) rfl dX4_findSigns_30 ?_
          refine lv_icmp_ge (tgt := 40) hx hb dX4_findSigns_33 (by decide) (fun c33_18 => ?_) (fun c33_18 => ?_)
          · skip
            rw [ti_le, nI_toInt (by omega), nI_toInt (by omega)] at c33_18
            have z0 : ¬ (fk i = 92 ∧ i + 1 < nk) := fun q => by omega
            refine lv_iconst (v := 0) hx hb dX4_findSigns_40 (by decide) ?_
            refine lv_istore_n (lv' := [(2, .int (0)), (0, .ref mo), (1, .int (nI i))]) hx hb dX4_findSigns_41 rfl hl (by decide) rfl (fun ls hl => ?_)
            refine lv_iload_n hx hb dX4_findSigns_42 rfl (lv_at hl 0 rfl) ?_
            refine lv_if_eq (tgt := 49) hx hb dX4_findSigns_43 (by decide) (fun c43_19 => ?_) (fun c43_19 => ?_)
            · skip
              refine lv_aload_n hx hb dX4_findSigns_49 rfl (lv_at hl 1 rfl) ?_
              refine va_get (D := (dC, dI)) (ci := 4) (v := .ref ms) (C := RX4) (T := TX4) (N := 12) hx hb hw inX4 hown hK hP 0 rfl rfl 6 (by decide) (hw _ mw250) (fun _ h9 => h9) rfl dX4_findSigns_50 ?_
              refine lv_aload_n hx hb dX4_findSigns_53 rfl (lv_at hl 1 rfl) ?_
              refine va_get (D := (dC, dI)) (ci := 4) (v := .int (nI p1)) (C := RX4) (T := TX4) (N := 12) hx hb hw inX4 hown hK hP 0 rfl rfl 5 (by decide) (hw _ mw249) (fun _ h9 => h9) rfl dX4_findSigns_54 ?_
              refine lv_iload_n hx hb dX4_findSigns_57 rfl (lv_at hl 0 rfl) ?_
              refine lv_if_eq (tgt := 65) hx hb dX4_findSigns_58 (by decide) (fun c58_20 => ?_) (fun c58_20 => ?_)
              · skip
                refine lv_aload_n hx hb dX4_findSigns_65 rfl (lv_at hl 1 rfl) ?_
                refine va_get (D := (dC, dI)) (ci := 4) (v := .ref mk) (C := RX4) (T := TX4) (N := 12) hx hb hw inX4 hown hK hP 0 rfl rfl 2 (by decide) (hw _ mw246) (fun _ h9 => h9) rfl dX4_findSigns_66 ?_
                refine lv_iload_n hx hb dX4_findSigns_69 rfl (lv_at hl 2 rfl) ?_
                refine va_iald hx hb hK hP 2 1 rfl rfl (i := (nI i)) (vp_in_nI (by omega) (by omega)) dX4_findSigns_70 ?_
                refine lv_topi (fun x22 ex22 => ?_)
                obtain rfl : x22 = fk i := by rw [ex22, nI_clamp (by omega)]
                refine lv_bipush (v := 63) hx hb dX4_findSigns_71 (by decide) ?_
                refine lv_icmp_ne (tgt := 80) hx hb dX4_findSigns_73 (by decide) (fun c73_22 => ?_) (fun c73_22 => ?_)
                · skip
                  have z3 := c73_22
                  refine lv_aload_n hx hb dX4_findSigns_80 rfl (lv_at hl 1 rfl) ?_
                  refine va_get (D := (dC, dI)) (ci := 4) (v := .ref mk) (C := RX4) (T := TX4) (N := 12) hx hb hw inX4 hown hK hP 0 rfl rfl 2 (by decide) (hw _ mw246) (fun _ h9 => h9) rfl dX4_findSigns_81 ?_
                  refine lv_iload_n hx hb dX4_findSigns_84 rfl (lv_at hl 2 rfl) ?_
                  refine va_iald hx hb hK hP 2 1 rfl rfl (i := (nI i)) (vp_in_nI (by omega) (by omega)) dX4_findSigns_85 ?_
                  refine lv_topi (fun x24 ex24 => ?_)
                  obtain rfl : x24 = fk i := by rw [ex24, nI_clamp (by omega)]
                  refine lv_bipush (v := 42) hx hb dX4_findSigns_86 (by decide) ?_
                  refine lv_icmp_ne (tgt := 95) hx hb dX4_findSigns_88 (by decide) (fun c88_24 => ?_) (fun c88_24 => ?_)
                  · skip
                    have z2 := c88_24
                    refine lv_iconst (v := 0) hx hb dX4_findSigns_95 (by decide) ?_
                    refine va_iast hx hb hK hP hD hS 3 2 rfl rfl (i := (nI p1)) (vp_in_nI (by omega) (by omega)) dX4_findSigns_96 (fun H locs hP hD hS => ?_)
                    rw [nI_clamp (by omega)] at hP hD
                    have hP : va_P (dC, dI) cl5 [(mo, .inr (4, [.int (th), .ref mv, .ref mk, .int (nI nv), .int (nI nk), .int (nI p1), .ref ms, .ref ml, .ref mc, .int (nI ct), .ref mf, .ref mn])), (mv, .inl (jv, 100, .inl fv)), (mk, .inl (jk, 100, .inl fk)), (ms, .inl (js, 100, .inl (upd w1 p1 (0)))), (ml, .inl (jl, 100, .inl w2)), (mc, .inl (jc, 10201, .inl gc)), (mf, .inl (jf, 100, .inl gf)), (mn, .inl (jn, 100, .inl gn))] H := hP
                    have hD : va_D A [(mo, .inr (4, [.int (th), .ref mv, .ref mk, .int (nI nv), .int (nI nk), .int (nI p1), .ref ms, .ref ml, .ref mc, .int (nI ct), .ref mf, .ref mn])), (mv, .inl (jv, 100, .inl fv)), (mk, .inl (jk, 100, .inl fk)), (ms, .inl (js, 100, .inl (upd w1 p1 (0)))), (ml, .inl (jl, 100, .inl w2)), (mc, .inl (jc, 10201, .inl gc)), (mf, .inl (jf, 100, .inl gf)), (mn, .inl (jn, 100, .inl gn))] := hD
                    refine lv_aload_n hx hb dX4_findSigns_97 rfl (lv_at hl 1 rfl) ?_
                    refine va_get (D := (dC, dI)) (ci := 4) (v := .ref ml) (C := RX4) (T := TX4) (N := 12) hx hb hw inX4 hown hK hP 0 rfl rfl 7 (by decide) (hw _ mw251) (fun _ h9 => h9) rfl dX4_findSigns_98 ?_
                    refine lv_aload_n hx hb dX4_findSigns_101 rfl (lv_at hl 1 rfl) ?_
                    refine va_get (D := (dC, dI)) (ci := 4) (v := .int (nI p1)) (C := RX4) (T := TX4) (N := 12) hx hb hw inX4 hown hK hP 0 rfl rfl 5 (by decide) (hw _ mw249) (fun _ h9 => h9) rfl dX4_findSigns_102 ?_
                    refine lv_aload_n hx hb dX4_findSigns_105 rfl (lv_at hl 1 rfl) ?_
                    refine va_get (D := (dC, dI)) (ci := 4) (v := .ref mk) (C := RX4) (T := TX4) (N := 12) hx hb hw inX4 hown hK hP 0 rfl rfl 2 (by decide) (hw _ mw246) (fun _ h9 => h9) rfl dX4_findSigns_106 ?_
                    refine lv_iload_n hx hb dX4_findSigns_109 rfl (lv_at hl 2 rfl) ?_
                    refine va_iald hx hb hK hP 2 1 rfl rfl (i := (nI i)) (vp_in_nI (by omega) (by omega)) dX4_findSigns_110 ?_
                    refine lv_topi (fun x26 ex26 => ?_)
                    obtain rfl : x26 = fk i := by rw [ex26, nI_clamp (by omega)]
                    refine va_iast hx hb hK hP hD hS 4 3 rfl rfl (i := (nI p1)) (vp_in_nI (by omega) (by omega)) dX4_findSigns_111 (fun H locs hP hD hS => ?_)
                    rw [nI_clamp (by omega)] at hP hD
                    have hP : va_P (dC, dI) cl5 [(mo, .inr (4, [.int (th), .ref mv, .ref mk, .int (nI nv), .int (nI nk), .int (nI p1), .ref ms, .ref ml, .ref mc, .int (nI ct), .ref mf, .ref mn])), (mv, .inl (jv, 100, .inl fv)), (mk, .inl (jk, 100, .inl fk)), (ms, .inl (js, 100, .inl (upd w1 p1 (0)))), (ml, .inl (jl, 100, .inl (upd w2 p1 (fk i)))), (mc, .inl (jc, 10201, .inl gc)), (mf, .inl (jf, 100, .inl gf)), (mn, .inl (jn, 100, .inl gn))] H := hP
                    have hD : va_D A [(mo, .inr (4, [.int (th), .ref mv, .ref mk, .int (nI nv), .int (nI nk), .int (nI p1), .ref ms, .ref ml, .ref mc, .int (nI ct), .ref mf, .ref mn])), (mv, .inl (jv, 100, .inl fv)), (mk, .inl (jk, 100, .inl fk)), (ms, .inl (js, 100, .inl (upd w1 p1 (0)))), (ml, .inl (jl, 100, .inl (upd w2 p1 (fk i)))), (mc, .inl (jc, 10201, .inl gc)), (mf, .inl (jf, 100, .inl gf)), (mn, .inl (jn, 100, .inl gn))] := hD
                    refine lv_aload_n hx hb dX4_findSigns_112 rfl (lv_at hl 1 rfl) ?_
                    refine lv_dup hx hb dX4_findSigns_113 rfl ?_
                    refine va_get (D := (dC, dI)) (ci := 4) (v := .int (nI p1)) (C := RX4) (T := TX4) (N := 12) hx hb hw inX4 hown hK hP 0 rfl rfl 5 (by decide) (hw _ mw249) (fun _ h9 => h9) rfl dX4_findSigns_114 ?_
                    refine lv_iconst (v := 1) hx hb dX4_findSigns_117 (by decide) ?_
                    refine lv_iadd hx hb dX4_findSigns_118 ?_
                    refine lv_topi (fun x27 ex27 => ?_)
                    obtain rfl : x27 = nI (p1 + 1) := by rw [ex27]; exact nI_1 p1
                    refine va_put (D := (dC, dI)) (ci := 4) (v := .int (nI (p1 + 1))) (ty := .int) (C := RX4) (T := TX4) (N := 12) hx hb hw inX4 tyX4 tyX4_ok nmX4 hown hK hP hD hS 0 rfl rfl 5 (by decide) (hw _ mw249) (fun _ h9 => h9) rfl (by decide +kernel) rfl rfl (Nat.le_of_ble_eq_true rfl) dX4_findSigns_119 (fun H locs hP hD hS => ?_)
                    have hP : va_P (dC, dI) cl5 [(mo, .inr (4, [.int (th), .ref mv, .ref mk, .int (nI nv), .int (nI nk), .int (nI (p1 + 1)), .ref ms, .ref ml, .ref mc, .int (nI ct), .ref mf, .ref mn])), (mv, .inl (jv, 100, .inl fv)), (mk, .inl (jk, 100, .inl fk)), (ms, .inl (js, 100, .inl (upd w1 p1 (0)))), (ml, .inl (jl, 100, .inl (upd w2 p1 (fk i)))), (mc, .inl (jc, 10201, .inl gc)), (mf, .inl (jf, 100, .inl gf)), (mn, .inl (jn, 100, .inl gn))] H := hP
                    have hD : va_D A [(mo, .inr (4, [.int (th), .ref mv, .ref mk, .int (nI nv), .int (nI nk), .int (nI (p1 + 1)), .ref ms, .ref ml, .ref mc, .int (nI ct), .ref mf, .ref mn])), (mv, .inl (jv, 100, .inl fv)), (mk, .inl (jk, 100, .inl fk)), (ms, .inl (js, 100, .inl (upd w1 p1 (0)))), (ml, .inl (jl, 100, .inl (upd w2 p1 (fk i)))), (mc, .inl (jc, 10201, .inl gc)), (mf, .inl (jf, 100, .inl gf)), (mn, .inl (jn, 100, .inl gn))] := hD
                    refine lv_iinc (v := nI (i + 1)) (lv' := [(1, .int (nI (i + 1))), (2, .int (0)), (0, .ref mo)]) hx hb dX4_findSigns_122 hl (k := 2) rfl (nI_inc i) (by decide) rfl (fun ls hl => ?_)
                    refine lv_goto (tgt := 7) hx hb dX4_findSigns_125 (by decide) ?_
                    exact ih7 (i + 1) (r - 1) (p1 + 1) (acc ++ [fk i]) _ _ (by omega) (by rw [List.length_append, List.length_singleton, hp9]) (by rw [List.append_assoc, ← e9, mkL_one z0 (by omega) hr9, if_neg z2, if_neg z3]; rfl) (srl_add e7 hp9 (Or.inr (Or.inr ⟨rfl, rfl, hrk i (by omega)⟩))) (by omega) (by omega) (by omega) H locs hP hD hS ls (lv_sub hl [2, 0] rfl)
                  · skip
                    have z2 := c88_24
                    refine lv_iconst (v := 2) hx hb dX4_findSigns_91 (by decide) ?_
                    refine lv_goto (tgt := 96) hx hb dX4_findSigns_92 (by decide) ?_
                    refine va_iast hx hb hK hP hD hS 3 2 rfl rfl (i := (nI p1)) (vp_in_nI (by omega) (by omega)) dX4_findSigns_96 (fun H locs hP hD hS => ?_)
                    rw [nI_clamp (by omega)] at hP hD
                    have hP : va_P (dC, dI) cl5 [(mo, .inr (4, [.int (th), .ref mv, .ref mk, .int (nI nv), .int (nI nk), .int (nI p1), .ref ms, .ref ml, .ref mc, .int (nI ct), .ref mf, .ref mn])), (mv, .inl (jv, 100, .inl fv)), (mk, .inl (jk, 100, .inl fk)), (ms, .inl (js, 100, .inl (upd w1 p1 (2)))), (ml, .inl (jl, 100, .inl w2)), (mc, .inl (jc, 10201, .inl gc)), (mf, .inl (jf, 100, .inl gf)), (mn, .inl (jn, 100, .inl gn))] H := hP
                    have hD : va_D A [(mo, .inr (4, [.int (th), .ref mv, .ref mk, .int (nI nv), .int (nI nk), .int (nI p1), .ref ms, .ref ml, .ref mc, .int (nI ct), .ref mf, .ref mn])), (mv, .inl (jv, 100, .inl fv)), (mk, .inl (jk, 100, .inl fk)), (ms, .inl (js, 100, .inl (upd w1 p1 (2)))), (ml, .inl (jl, 100, .inl w2)), (mc, .inl (jc, 10201, .inl gc)), (mf, .inl (jf, 100, .inl gf)), (mn, .inl (jn, 100, .inl gn))] := hD
                    refine lv_aload_n hx hb dX4_findSigns_97 rfl (lv_at hl 1 rfl) ?_
                    refine va_get (D := (dC, dI)) (ci := 4) (v := .ref ml) (C := RX4) (T := TX4) (N := 12) hx hb hw inX4 hown hK hP 0 rfl rfl 7 (by decide) (hw _ mw251) (fun _ h9 => h9) rfl dX4_findSigns_98 ?_
                    refine lv_aload_n hx hb dX4_findSigns_101 rfl (lv_at hl 1 rfl) ?_
                    refine va_get (D := (dC, dI)) (ci := 4) (v := .int (nI p1)) (C := RX4) (T := TX4) (N := 12) hx hb hw inX4 hown hK hP 0 rfl rfl 5 (by decide) (hw _ mw249) (fun _ h9 => h9) rfl dX4_findSigns_102 ?_
                    refine lv_aload_n hx hb dX4_findSigns_105 rfl (lv_at hl 1 rfl) ?_
                    refine va_get (D := (dC, dI)) (ci := 4) (v := .ref mk) (C := RX4) (T := TX4) (N := 12) hx hb hw inX4 hown hK hP 0 rfl rfl 2 (by decide) (hw _ mw246) (fun _ h9 => h9) rfl dX4_findSigns_106 ?_
                    refine lv_iload_n hx hb dX4_findSigns_109 rfl (lv_at hl 2 rfl) ?_
                    refine va_iald hx hb hK hP 2 1 rfl rfl (i := (nI i)) (vp_in_nI (by omega) (by omega)) dX4_findSigns_110 ?_
                    refine lv_topi (fun x28 ex28 => ?_)
                    obtain rfl : x28 = fk i := by rw [ex28, nI_clamp (by omega)]
                    refine va_iast hx hb hK hP hD hS 4 3 rfl rfl (i := (nI p1)) (vp_in_nI (by omega) (by omega)) dX4_findSigns_111 (fun H locs hP hD hS => ?_)
                    rw [nI_clamp (by omega)] at hP hD
                    have hP : va_P (dC, dI) cl5 [(mo, .inr (4, [.int (th), .ref mv, .ref mk, .int (nI nv), .int (nI nk), .int (nI p1), .ref ms, .ref ml, .ref mc, .int (nI ct), .ref mf, .ref mn])), (mv, .inl (jv, 100, .inl fv)), (mk, .inl (jk, 100, .inl fk)), (ms, .inl (js, 100, .inl (upd w1 p1 (2)))), (ml, .inl (jl, 100, .inl (upd w2 p1 (fk i)))), (mc, .inl (jc, 10201, .inl gc)), (mf, .inl (jf, 100, .inl gf)), (mn, .inl (jn, 100, .inl gn))] H := hP
                    have hD : va_D A [(mo, .inr (4, [.int (th), .ref mv, .ref mk, .int (nI nv), .int (nI nk), .int (nI p1), .ref ms, .ref ml, .ref mc, .int (nI ct), .ref mf, .ref mn])), (mv, .inl (jv, 100, .inl fv)), (mk, .inl (jk, 100, .inl fk)), (ms, .inl (js, 100, .inl (upd w1 p1 (2)))), (ml, .inl (jl, 100, .inl (upd w2 p1 (fk i)))), (mc, .inl (jc, 10201, .inl gc)), (mf, .inl (jf, 100, .inl gf)), (mn, .inl (jn, 100, .inl gn))] := hD
                    refine lv_aload_n hx hb dX4_findSigns_112 rfl (lv_at hl 1 rfl) ?_
                    refine lv_dup hx hb dX4_findSigns_113 rfl ?_
                    refine va_get (D := (dC, dI)) (ci := 4) (v := .int (nI p1)) (C := RX4) (T := TX4) (N := 12) hx hb hw inX4 hown hK hP 0 rfl rfl 5 (by decide) (hw _ mw249) (fun _ h9 => h9) rfl dX4_findSigns_114 ?_
                    refine lv_iconst (v := 1) hx hb dX4_findSigns_117 (by decide) ?_
                    refine lv_iadd hx hb dX4_findSigns_118 ?_
                    refine lv_topi (fun x29 ex29 => ?_)
                    obtain rfl : x29 = nI (p1 + 1) := by rw [ex29]; exact nI_1 p1
                    refine va_put (D := (dC, dI)) (ci := 4) (v := .int (nI (p1 + 1))) (ty := .int) (C := RX4) (T := TX4) (N := 12) hx hb hw inX4 tyX4 tyX4_ok nmX4 hown hK hP hD hS 0 rfl rfl 5 (by decide) (hw _ mw249) (fun _ h9 => h9) rfl (by decide +kernel) rfl rfl (Nat.le_of_ble_eq_true rfl) dX4_findSigns_119 (fun H locs hP hD hS => ?_)
                    have hP : va_P (dC, dI) cl5 [(mo, .inr (4, [.int (th), .ref mv, .ref mk, .int (nI nv), .int (nI nk), .int (nI (p1 + 1)), .ref ms, .ref ml, .ref mc, .int (nI ct), .ref mf, .ref mn])), (mv, .inl (jv, 100, .inl fv)), (mk, .inl (jk, 100, .inl fk)), (ms, .inl (js, 100, .inl (upd w1 p1 (2)))), (ml, .inl (jl, 100, .inl (upd w2 p1 (fk i)))), (mc, .inl (jc, 10201, .inl gc)), (mf, .inl (jf, 100, .inl gf)), (mn, .inl (jn, 100, .inl gn))] H := hP
                    have hD : va_D A [(mo, .inr (4, [.int (th), .ref mv, .ref mk, .int (nI nv), .int (nI nk), .int (nI (p1 + 1)), .ref ms, .ref ml, .ref mc, .int (nI ct), .ref mf, .ref mn])), (mv, .inl (jv, 100, .inl fv)), (mk, .inl (jk, 100, .inl fk)), (ms, .inl (js, 100, .inl (upd w1 p1 (2)))), (ml, .inl (jl, 100, .inl (upd w2 p1 (fk i)))), (mc, .inl (jc, 10201, .inl gc)), (mf, .inl (jf, 100, .inl gf)), (mn, .inl (jn, 100, .inl gn))] := hD
                    refine lv_iinc (v := nI (i + 1)) (lv' := [(1, .int (nI (i + 1))), (2, .int (0)), (0, .ref mo)]) hx hb dX4_findSigns_122 hl (k := 2) rfl (nI_inc i) (by decide) rfl (fun ls hl => ?_)
                    refine lv_goto (tgt := 7) hx hb dX4_findSigns_125 (by decide) ?_
                    exact ih7 (i + 1) (r - 1) (p1 + 1) (acc ++ [257]) _ _ (by omega) (by rw [List.length_append, List.length_singleton, hp9]) (by rw [List.append_assoc, ← e9, mkL_one z0 (by omega) hr9, if_pos (by first | exact z2 | exact Decidable.not_not.mp z2)]; rfl) (srl_add e7 hp9 (Or.inl ⟨rfl, rfl⟩)) (by omega) (by omega) (by omega) H locs hP hD hS ls (lv_sub hl [2, 0] rfl)
                · skip
                  have z3 := c73_22
                  have z2 : ¬ fk i = 42 := by rw [(show fk i = 63 from by first | exact c73_22 | exact Decidable.not_not.mp c73_22)]; decide
                  refine lv_iconst (v := 1) hx hb dX4_findSigns_76 (by decide) ?_
                  refine lv_goto (tgt := 96) hx hb dX4_findSigns_77 (by decide) ?_
                  refine va_iast hx hb hK hP hD hS 3 2 rfl rfl (i := (nI p1)) (vp_in_nI (by omega) (by omega)) dX4_findSigns_96 (fun H locs hP hD hS => ?_)
                  rw [nI_clamp (by omega)] at hP hD
                  have hP : va_P (dC, dI) cl5 [(mo, .inr (4, [.int (th), .ref mv, .ref mk, .int (nI nv), .int (nI nk), .int (nI p1), .ref ms, .ref ml, .ref mc, .int (nI ct), .ref mf, .ref mn])), (mv, .inl (jv, 100, .inl fv)), (mk, .inl (jk, 100, .inl fk)), (ms, .inl (js, 100, .inl (upd w1 p1 (1)))), (ml, .inl (jl, 100, .inl w2)), (mc, .inl (jc, 10201, .inl gc)), (mf, .inl (jf, 100, .inl gf)), (mn, .inl (jn, 100, .inl gn))] H := hP
                  have hD : va_D A [(mo, .inr (4, [.int (th), .ref mv, .ref mk, .int (nI nv), .int (nI nk), .int (nI p1), .ref ms, .ref ml, .ref mc, .int (nI ct), .ref mf, .ref mn])), (mv, .inl (jv, 100, .inl fv)), (mk, .inl (jk, 100, .inl fk)), (ms, .inl (js, 100, .inl (upd w1 p1 (1)))), (ml, .inl (jl, 100, .inl w2)), (mc, .inl (jc, 10201, .inl gc)), (mf, .inl (jf, 100, .inl gf)), (mn, .inl (jn, 100, .inl gn))] := hD
                  refine lv_aload_n hx hb dX4_findSigns_97 rfl (lv_at hl 1 rfl) ?_
                  refine va_get (D := (dC, dI)) (ci := 4) (v := .ref ml) (C := RX4) (T := TX4) (N := 12) hx hb hw inX4 hown hK hP 0 rfl rfl 7 (by decide) (hw _ mw251) (fun _ h9 => h9) rfl dX4_findSigns_98 ?_
                  refine lv_aload_n hx hb dX4_findSigns_101 rfl (lv_at hl 1 rfl) ?_
                  refine va_get (D := (dC, dI)) (ci := 4) (v := .int (nI p1)) (C := RX4) (T := TX4) (N := 12) hx hb hw inX4 hown hK hP 0 rfl rfl 5 (by decide) (hw _ mw249) (fun _ h9 => h9) rfl dX4_findSigns_102 ?_
                  refine lv_aload_n hx hb dX4_findSigns_105 rfl (lv_at hl 1 rfl) ?_
                  refine va_get (D := (dC, dI)) (ci := 4) (v := .ref mk) (C := RX4) (T := TX4) (N := 12) hx hb hw inX4 hown hK hP 0 rfl rfl 2 (by decide) (hw _ mw246) (fun _ h9 => h9) rfl dX4_findSigns_106 ?_
                  refine lv_iload_n hx hb dX4_findSigns_109 rfl (lv_at hl 2 rfl) ?_
                  refine va_iald hx hb hK hP 2 1 rfl rfl (i := (nI i)) (vp_in_nI (by omega) (by omega)) dX4_findSigns_110 ?_
                  refine lv_topi (fun x30 ex30 => ?_)
                  obtain rfl : x30 = fk i := by rw [ex30, nI_clamp (by omega)]
                  refine va_iast hx hb hK hP hD hS 4 3 rfl rfl (i := (nI p1)) (vp_in_nI (by omega) (by omega)) dX4_findSigns_111 (fun H locs hP hD hS => ?_)
                  rw [nI_clamp (by omega)] at hP hD
                  have hP : va_P (dC, dI) cl5 [(mo, .inr (4, [.int (th), .ref mv, .ref mk, .int (nI nv), .int (nI nk), .int (nI p1), .ref ms, .ref ml, .ref mc, .int (nI ct), .ref mf, .ref mn])), (mv, .inl (jv, 100, .inl fv)), (mk, .inl (jk, 100, .inl fk)), (ms, .inl (js, 100, .inl (upd w1 p1 (1)))), (ml, .inl (jl, 100, .inl (upd w2 p1 (fk i)))), (mc, .inl (jc, 10201, .inl gc)), (mf, .inl (jf, 100, .inl gf)), (mn, .inl (jn, 100, .inl gn))] H := hP
                  have hD : va_D A [(mo, .inr (4, [.int (th), .ref mv, .ref mk, .int (nI nv), .int (nI nk), .int (nI p1), .ref ms, .ref ml, .ref mc, .int (nI ct), .ref mf, .ref mn])), (mv, .inl (jv, 100, .inl fv)), (mk, .inl (jk, 100, .inl fk)), (ms, .inl (js, 100, .inl (upd w1 p1 (1)))), (ml, .inl (jl, 100, .inl (upd w2 p1 (fk i)))), (mc, .inl (jc, 10201, .inl gc)), (mf, .inl (jf, 100, .inl gf)), (mn, .inl (jn, 100, .inl gn))] := hD
                  refine lv_aload_n hx hb dX4_findSigns_112 rfl (lv_at hl 1 rfl) ?_
                  refine lv_dup hx hb dX4_findSigns_113 rfl ?_
                  refine va_get (D := (dC, dI)) (ci := 4) (v := .int (nI p1)) (C := RX4) (T := TX4) (N := 12) hx hb hw inX4 hown hK hP 0 rfl rfl 5 (by decide) (hw _ mw249) (fun _ h9 => h9) rfl dX4_findSigns_114 ?_
                  refine lv_iconst (v := 1) hx hb dX4_findSigns_117 (by decide) ?_
                  refine lv_iadd hx hb dX4_findSigns_118 ?_
                  refine lv_topi (fun x31 ex31 => ?_)
                  obtain rfl : x31 = nI (p1 + 1) := by rw [ex31]; exact nI_1 p1
                  refine va_put (D := (dC, dI)) (ci := 4) (v := .int (nI (p1 + 1))) (ty := .int) (C := RX4) (T := TX4) (N := 12) hx hb hw inX4 tyX4 tyX4_ok nmX4 hown hK hP hD hS 0 rfl rfl 5 (by decide) (hw _ mw249) (fun _ h9 => h9) rfl (by decide +kernel) rfl rfl (Nat.le_of_ble_eq_true rfl) dX4_findSigns_119 (fun H locs hP hD hS => ?_)
                  have hP : va_P (dC, dI) cl5 [(mo, .inr (4, [.int (th), .ref mv, .ref mk, .int (nI nv), .int (nI nk), .int (nI (p1 + 1)), .ref ms, .ref ml, .ref mc, .int (nI ct), .ref mf, .ref mn])), (mv, .inl (jv, 100, .inl fv)), (mk, .inl (jk, 100, .inl fk)), (ms, .inl (js, 100, .inl (upd w1 p1 (1)))), (ml, .inl (jl, 100, .inl (upd w2 p1 (fk i)))), (mc, .inl (jc, 10201, .inl gc)), (mf, .inl (jf, 100, .inl gf)), (mn, .inl (jn, 100, .inl gn))] H := hP
                  have hD : va_D A [(mo, .inr (4, [.int (th), .ref mv, .ref mk, .int (nI nv), .int (nI nk), .int (nI (p1 + 1)), .ref ms, .ref ml, .ref mc, .int (nI ct), .ref mf, .ref mn])), (mv, .inl (jv, 100, .inl fv)), (mk, .inl (jk, 100, .inl fk)), (ms, .inl (js, 100, .inl (upd w1 p1 (1)))), (ml, .inl (jl, 100, .inl (upd w2 p1 (fk i)))), (mc, .inl (jc, 10201, .inl gc)), (mf, .inl (jf, 100, .inl gf)), (mn, .inl (jn, 100, .inl gn))] := hD
                  refine lv_iinc (v := nI (i + 1)) (lv' := [(1, .int (nI (i + 1))), (2, .int (0)), (0, .ref mo)]) hx hb dX4_findSigns_122 hl (k := 2) rfl (nI_inc i) (by decide) rfl (fun ls hl => ?_)
                  refine lv_goto (tgt := 7) hx hb dX4_findSigns_125 (by decide) ?_
                  exact ih7 (i + 1) (r - 1) (p1 + 1) (acc ++ [256]) _ _ (by omega) (by rw [List.length_append, List.length_singleton, hp9]) (by rw [List.append_assoc, ← e9, mkL_one z0 (by omega) hr9, if_neg z2, if_pos (by first | exact z3 | exact Decidable.not_not.mp z3)]; rfl) (srl_add e7 hp9 (Or.inr (Or.inl ⟨rfl, rfl⟩))) (by omega) (by omega) (by omega) H locs hP hD hS ls (lv_sub hl [2, 0] rfl)
              · skip
                exact absurd rfl c58_20
            · skip
              exact absurd rfl c43_19
          · skip
            rw [ti_le, nI_toInt (by omega), nI_toInt (by omega)] at c33_18
            have z0 : i + 1 < nk := by omega
            refine lv_iconst (v := 1) hx hb dX4_findSigns_36 (by decide) ?_
            refine lv_goto (tgt := 41) hx hb dX4_findSigns_37 (by decide) ?_
            refine lv_istore_n (lv' := [(2, .int (1)), (0, .ref mo), (1, .int (nI i))]) hx hb dX4_findSigns_41 rfl hl (by decide) rfl (fun ls hl => ?_)
            refine lv_iload_n hx hb dX4_findSigns_42 rfl (lv_at hl 0 rfl) ?_
            refine lv_if_eq (tgt := 49) hx hb dX4_findSigns_43 (by decide) (fun c43_31 => ?_) (fun c43_31 => ?_)
            · skip
              exact absurd c43_31 (by decide)
            · skip
              refine lv_iinc (v := nI (i + 1)) (lv' := [(1, .int (nI (i + 1))), (2, .int (1)), (0, .ref mo)]) hx hb dX4_findSigns_46 hl (k := 2) rfl (nI_inc i) (by decide) rfl (fun ls hl => ?_)
              refine lv_aload_n hx hb dX4_findSigns_49 rfl (lv_at hl 2 rfl) ?_
              refine va_get (D := (dC, dI)) (ci := 4) (v := .ref ms) (C := RX4) (T := TX4) (N := 12) hx hb hw inX4 hown hK hP 0 rfl rfl 6 (by decide) (hw _ mw250) (fun _ h9 => h9) rfl dX4_findSigns_50 ?_
              refine lv_aload_n hx hb dX4_findSigns_53 rfl (lv_at hl 2 rfl) ?_
              refine va_get (D := (dC, dI)) (ci := 4) (v := .int (nI p1)) (C := RX4) (T := TX4) (N := 12) hx hb hw inX4 hown hK hP 0 rfl rfl 5 (by decide) (hw _ mw249) (fun _ h9 => h9) rfl dX4_findSigns_54 ?_
              refine lv_iload_n hx hb dX4_findSigns_57 rfl (lv_at hl 1 rfl) ?_
              refine lv_if_eq (tgt := 65) hx hb dX4_findSigns_58 (by decide) (fun c58_32 => ?_) (fun c58_32 => ?_)
              · skip
                exact absurd c58_32 (by decide)
              · skip
                refine lv_iconst (v := 0) hx hb dX4_findSigns_61 (by decide) ?_
                refine lv_goto (tgt := 96) hx hb dX4_findSigns_62 (by decide) ?_
                refine va_iast hx hb hK hP hD hS 3 2 rfl rfl (i := (nI p1)) (vp_in_nI (by omega) (by omega)) dX4_findSigns_96 (fun H locs hP hD hS => ?_)
                rw [nI_clamp (by omega)] at hP hD
                have hP : va_P (dC, dI) cl5 [(mo, .inr (4, [.int (th), .ref mv, .ref mk, .int (nI nv), .int (nI nk), .int (nI p1), .ref ms, .ref ml, .ref mc, .int (nI ct), .ref mf, .ref mn])), (mv, .inl (jv, 100, .inl fv)), (mk, .inl (jk, 100, .inl fk)), (ms, .inl (js, 100, .inl (upd w1 p1 (0)))), (ml, .inl (jl, 100, .inl w2)), (mc, .inl (jc, 10201, .inl gc)), (mf, .inl (jf, 100, .inl gf)), (mn, .inl (jn, 100, .inl gn))] H := hP
                have hD : va_D A [(mo, .inr (4, [.int (th), .ref mv, .ref mk, .int (nI nv), .int (nI nk), .int (nI p1), .ref ms, .ref ml, .ref mc, .int (nI ct), .ref mf, .ref mn])), (mv, .inl (jv, 100, .inl fv)), (mk, .inl (jk, 100, .inl fk)), (ms, .inl (js, 100, .inl (upd w1 p1 (0)))), (ml, .inl (jl, 100, .inl w2)), (mc, .inl (jc, 10201, .inl gc)), (mf, .inl (jf, 100, .inl gf)), (mn, .inl (jn, 100, .inl gn))] := hD
                refine lv_aload_n hx hb dX4_findSigns_97 rfl (lv_at hl 2 rfl) ?_
                refine va_get (D := (dC, dI)) (ci := 4) (v := .ref ml) (C := RX4) (T := TX4) (N := 12) hx hb hw inX4 hown hK hP 0 rfl rfl 7 (by decide) (hw _ mw251) (fun _ h9 => h9) rfl dX4_findSigns_98 ?_
                refine lv_aload_n hx hb dX4_findSigns_101 rfl (lv_at hl 2 rfl) ?_
                refine va_get (D := (dC, dI)) (ci := 4) (v := .int (nI p1)) (C := RX4) (T := TX4) (N := 12) hx hb hw inX4 hown hK hP 0 rfl rfl 5 (by decide) (hw _ mw249) (fun _ h9 => h9) rfl dX4_findSigns_102 ?_
                refine lv_aload_n hx hb dX4_findSigns_105 rfl (lv_at hl 2 rfl) ?_
                refine va_get (D := (dC, dI)) (ci := 4) (v := .ref mk) (C := RX4) (T := TX4) (N := 12) hx hb hw inX4 hown hK hP 0 rfl rfl 2 (by decide) (hw _ mw246) (fun _ h9 => h9) rfl dX4_findSigns_106 ?_
                refine lv_iload_n hx hb dX4_findSigns_109 rfl (lv_at hl 0 rfl) ?_
                refine va_iald hx hb hK hP 2 1 rfl rfl (i := (nI (i + 1))) (vp_in_nI (by omega) (by omega)) dX4_findSigns_110 ?_
                refine lv_topi (fun x34 ex34 => ?_)
                obtain rfl : x34 = fk (i + 1) := by rw [ex34, nI_clamp (by omega)]
                refine va_iast hx hb hK hP hD hS 4 3 rfl rfl (i := (nI p1)) (vp_in_nI (by omega) (by omega)) dX4_findSigns_111 (fun H locs hP hD hS => ?_)
                rw [nI_clamp (by omega)] at hP hD
                have hP : va_P (dC, dI) cl5 [(mo, .inr (4, [.int (th), .ref mv, .ref mk, .int (nI nv), .int (nI nk), .int (nI p1), .ref ms, .ref ml, .ref mc, .int (nI ct), .ref mf, .ref mn])), (mv, .inl (jv, 100, .inl fv)), (mk, .inl (jk, 100, .inl fk)), (ms, .inl (js, 100, .inl (upd w1 p1 (0)))), (ml, .inl (jl, 100, .inl (upd w2 p1 (fk (i + 1))))), (mc, .inl (jc, 10201, .inl gc)), (mf, .inl (jf, 100, .inl gf)), (mn, .inl (jn, 100, .inl gn))] H := hP
                have hD : va_D A [(mo, .inr (4, [.int (th), .ref mv, .ref mk, .int (nI nv), .int (nI nk), .int (nI p1), .ref ms, .ref ml, .ref mc, .int (nI ct), .ref mf, .ref mn])), (mv, .inl (jv, 100, .inl fv)), (mk, .inl (jk, 100, .inl fk)), (ms, .inl (js, 100, .inl (upd w1 p1 (0)))), (ml, .inl (jl, 100, .inl (upd w2 p1 (fk (i + 1))))), (mc, .inl (jc, 10201, .inl gc)), (mf, .inl (jf, 100, .inl gf)), (mn, .inl (jn, 100, .inl gn))] := hD
                refine lv_aload_n hx hb dX4_findSigns_112 rfl (lv_at hl 2 rfl) ?_
                refine lv_dup hx hb dX4_findSigns_113 rfl ?_
                refine va_get (D := (dC, dI)) (ci := 4) (v := .int (nI p1)) (C := RX4) (T := TX4) (N := 12) hx hb hw inX4 hown hK hP 0 rfl rfl 5 (by decide) (hw _ mw249) (fun _ h9 => h9) rfl dX4_findSigns_114 ?_
                refine lv_iconst (v := 1) hx hb dX4_findSigns_117 (by decide) ?_
                refine lv_iadd hx hb dX4_findSigns_118 ?_
                refine lv_topi (fun x35 ex35 => ?_)
                obtain rfl : x35 = nI (p1 + 1) := by rw [ex35]; exact nI_1 p1
                refine va_put (D := (dC, dI)) (ci := 4) (v := .int (nI (p1 + 1))) (ty := .int) (C := RX4) (T := TX4) (N := 12) hx hb hw inX4 tyX4 tyX4_ok nmX4 hown hK hP hD hS 0 rfl rfl 5 (by decide) (hw _ mw249) (fun _ h9 => h9) rfl (by decide +kernel) rfl rfl (Nat.le_of_ble_eq_true rfl) dX4_findSigns_119 (fun H locs hP hD hS => ?_)
                have hP : va_P (dC, dI) cl5 [(mo, .inr (4, [.int (th), .ref mv, .ref mk, .int (nI nv), .int (nI nk), .int (nI (p1 + 1)), .ref ms, .ref ml, .ref mc, .int (nI ct), .ref mf, .ref mn])), (mv, .inl (jv, 100, .inl fv)), (mk, .inl (jk, 100, .inl fk)), (ms, .inl (js, 100, .inl (upd w1 p1 (0)))), (ml, .inl (jl, 100, .inl (upd w2 p1 (fk (i + 1))))), (mc, .inl (jc, 10201, .inl gc)), (mf, .inl (jf, 100, .inl gf)), (mn, .inl (jn, 100, .inl gn))] H := hP
                have hD : va_D A [(mo, .inr (4, [.int (th), .ref mv, .ref mk, .int (nI nv), .int (nI nk), .int (nI (p1 + 1)), .ref ms, .ref ml, .ref mc, .int (nI ct), .ref mf, .ref mn])), (mv, .inl (jv, 100, .inl fv)), (mk, .inl (jk, 100, .inl fk)), (ms, .inl (js, 100, .inl (upd w1 p1 (0)))), (ml, .inl (jl, 100, .inl (upd w2 p1 (fk (i + 1))))), (mc, .inl (jc, 10201, .inl gc)), (mf, .inl (jf, 100, .inl gf)), (mn, .inl (jn, 100, .inl gn))] := hD
                refine lv_iinc (v := nI (i + 1 + 1)) (lv' := [(1, .int (nI (i + 1 + 1))), (2, .int (1)), (0, .ref mo)]) hx hb dX4_findSigns_122 hl (k := 0) rfl (nI_inc (i + 1)) (by decide) rfl (fun ls hl => ?_)
                refine lv_goto (tgt := 7) hx hb dX4_findSigns_125 (by decide) ?_
                exact ih7 (i + 1 + 1) (r - 1) (p1 + 1) (acc ++ [fk (i + 1)]) _ _ (by omega) (by rw [List.length_append, List.length_singleton, hp9]) (by rw [List.append_assoc, ← e9, mkL_esc (by first | exact z1 | exact Decidable.not_not.mp z1) z0 hr9]; rfl) (srl_add e7 hp9 (Or.inr (Or.inr ⟨rfl, rfl, hrk (i + 1) z0⟩))) (by omega) (by omega) (by omega) H locs hP hD hS ls (lv_sub hl [2, 0] rfl)
  exact loop7 (nk + 1) 0 nk 0 [] gs gl (by omega) rfl rfl srl_0 (Nat.le_refl _) (Nat.zero_le _) (by omega) H locs hP hD hS ls (lv_sub hl [1, 0] rfl)
