abbrev rm_m_spans : Room := { frames := 0, cells := 0, slots := 0, locals := 0 }
set_option maxHeartbeats 4000000 in
set_option maxRecDepth 100000 in
theorem m_spans (l : Launch) (dC : Nat → ClassId) (dI : Nat → Nat → Nat) (sz : Nat) (mo mv mk ms ml mc mf mn : Nat) (jv jk js jl jc jf jn : ClassId) (fv fk gs gl gc gf gn : Nat → Int32) (nv nk sn ct : Nat) (th : Int32) (hv : nv ≤ 100) (hk : nk ≤ 100) : Met l yX4_spans (.code yX4_spans cX4_spans 1 (some (.int)) :: wsA) rm_m_spans (va_Pc [.ref mo] (wr (dC, dI) [(mo, .inr (4, [.int (th), .ref mv, .ref mk, .int (nI nv), .int (nI nk), .int (nI sn), .ref ms, .ref ml, .ref mc, .int (nI ct), .ref mf, .ref mn])), (mv, .inl (jv, 100, .inl fv)), (mk, .inl (jk, 100, .inl fk)), (ms, .inl (js, 100, .inl gs)), (ml, .inl (jl, 100, .inl gl)), (mc, .inl (jc, 10201, .inl gc)), (mf, .inl (jf, 100, .inl gf)), (mn, .inl (jn, 100, .inl gn))] [(jv, .int), (jk, .int), (js, .int), (jl, .int), (jc, .boolean), (jf, .int), (jn, .int)] sz)) (va_Qi (fun (r : Int32) (_ : Unit) => r = nI ct) (wB (dC, dI) (va_A [(mo, .inr (4, [.int (th), .ref mv, .ref mk, .int (nI nv), .int (nI nk), .int (nI sn), .ref ms, .ref ml, .ref mc, .int (nI ct), .ref mf, .ref mn])), (mv, .inl (jv, 100, .inl fv)), (mk, .inl (jk, 100, .inl fk)), (ms, .inl (js, 100, .inl gs)), (ml, .inl (jl, 100, .inl gl)), (mc, .inl (jc, 10201, .inl gc)), (mf, .inl (jf, 100, .inl gf)), (mn, .inl (jn, 100, .inl gn))] sz) (fun _ : Unit => [(mo, .inr (4, [.int (nI 0), .ref mv, .ref mk, .int (nI nv), .int (nI nk), .int (nI sn), .ref ms, .ref ml, .ref mc, .int (nI ct), .ref mf, .ref mn])), (mv, .inl (jv, 100, .inl fv)), (mk, .inl (jk, 100, .inl fk)), (ms, .inl (js, 100, .inl gs)), (ml, .inl (jl, 100, .inl gl)), (mc, .inl (jc, 10201, .inl gc)), (mf, .inl (jf, 100, .inl gf)), (mn, .inl (jn, 100, .inl gn))])) (va_A [(mo, .inr (4, [.int (th), .ref mv, .ref mk, .int (nI nv), .int (nI nk), .int (nI sn), .ref ms, .ref ml, .ref mc, .int (nI ct), .ref mf, .ref mn])), (mv, .inl (jv, 100, .inl fv)), (mk, .inl (jk, 100, .inl fk)), (ms, .inl (js, 100, .inl gs)), (ml, .inl (jl, 100, .inl gl)), (mc, .inl (jc, 10201, .inl gc)), (mf, .inl (jf, 100, .inl gf)), (mn, .inl (jn, 100, .inl gn))] sz)) 0 0 (va_A [(mo, .inr (4, [.int (th), .ref mv, .ref mk, .int (nI nv), .int (nI nk), .int (nI sn), .ref ms, .ref ml, .ref mc, .int (nI ct), .ref mf, .ref mn])), (mv, .inl (jv, 100, .inl fv)), (mk, .inl (jk, 100, .inl fk)), (ms, .inl (js, 100, .inl gs)), (ml, .inl (jl, 100, .inl gl)), (mc, .inl (jc, 10201, .inl gc)), (mf, .inl (jf, 100, .inl gf)), (mn, .inl (jn, 100, .inl gn))] sz) := by
  refine Met.ofW (cc := cX4_spans) (maxL := 1) (ret := (some (.int))) (by decide) rfl ?_
  intro p e s m args below meth c s₁ B hml hv
  obtain ⟨hargs, hsz, hN, hP, hK, hD0⟩ := hv
  have hx := B.exec
  have hb := B.bytes
  have hr := B.returns
  have hw : ∀ w ∈ wsA, w.before args s = true := fun w h => atoms_spec (ws := (.code yX4_spans cX4_spans 1 (some (.int)) :: wsA)) B.pre w (List.mem_cons_of_mem _ h)
  have hown : s.vm.findClass "GlobDeskModel" = some m.cls := findClass_of_methodNamed B.named
  have hlocks := B.notSynchronized
  subst hsz
  have hD := hD0.self (sz := s.heap.size)
  generalize hAe : va_A [(mo, .inr (4, [.int (th), .ref mv, .ref mk, .int (nI nv), .int (nI nk), .int (nI sn), .ref ms, .ref ml, .ref mc, .int (nI ct), .ref mf, .ref mn])), (mv, .inl (jv, 100, .inl fv)), (mk, .inl (jk, 100, .inl fk)), (ms, .inl (js, 100, .inl gs)), (ml, .inl (jl, 100, .inl gl)), (mc, .inl (jc, 10201, .inl gc)), (mf, .inl (jf, 100, .inl gf)), (mn, .inl (jn, 100, .inl gn))] s.heap.size = A at hD ⊢
  have hA : ∀ q : Nat, s.heap.size ≤ q → A q := fun q h => by rw [← hAe]; exact Or.inr h
  have hS : va_S A s.heap s.heap [] := va_S.rf
  generalize hQ : MQ below _ args s _ _ _ = Q
  change W p l e rm_m_spans s m args below meth c s.heap [] 0 0 Q (entryFrame m args 1)
  have hl := lv_entry ([.ref mo]) (n := 1) (Nat.le_of_ble_eq_true rfl)
  rw [show entryFrame m args 1 = entryFrame m ([.ref mo] : List Value).toArray 1 from by rw [hargs], lg_entry_eq]
  generalize (lg_sl ([.ref mo]) ++ List.replicate (1 - (lg_sl ([.ref mo])).length) Slot.unset).toArray = ls at hl ⊢
  have hl : lv_has ls 1 [(0, .ref mo)] := hl
  refine lv_aload_n hx hb dX4_spans_0 rfl (lv_at hl 0 rfl) ?_
  refine lv_iconst (v := 0) hx hb dX4_spans_1 (by decide) ?_
  refine lv_topi (fun x1 ex1 => ?_)
  obtain rfl : x1 = nI 0 := by rw [ex1]; exact nI_0.symm
  refine va_put (D := (dC, dI)) (ci := 4) (v := .int (nI 0)) (ty := .int) (C := RX4) (T := TX4) (N := 12) hx hb hw inX4 tyX4 tyX4_ok nmX4 hown hK hP hD hS 0 rfl rfl 0 (by decide) (hw _ mw244) (fun _ h9 => h9) rfl (by decide +kernel) rfl rfl (Nat.le_of_ble_eq_true rfl) dX4_spans_2 (fun H locs hP hD hS => ?_)
  have hP : va_P (dC, dI) cl5 [(mo, .inr (4, [.int (nI 0), .ref mv, .ref mk, .int (nI nv), .int (nI nk), .int (nI sn), .ref ms, .ref ml, .ref mc, .int (nI ct), .ref mf, .ref mn])), (mv, .inl (jv, 100, .inl fv)), (mk, .inl (jk, 100, .inl fk)), (ms, .inl (js, 100, .inl gs)), (ml, .inl (jl, 100, .inl gl)), (mc, .inl (jc, 10201, .inl gc)), (mf, .inl (jf, 100, .inl gf)), (mn, .inl (jn, 100, .inl gn))] H := hP
  have hD : va_D A [(mo, .inr (4, [.int (nI 0), .ref mv, .ref mk, .int (nI nv), .int (nI nk), .int (nI sn), .ref ms, .ref ml, .ref mc, .int (nI ct), .ref mf, .ref mn])), (mv, .inl (jv, 100, .inl fv)), (mk, .inl (jk, 100, .inl fk)), (ms, .inl (js, 100, .inl gs)), (ml, .inl (jl, 100, .inl gl)), (mc, .inl (jc, 10201, .inl gc)), (mf, .inl (jf, 100, .inl gf)), (mn, .inl (jn, 100, .inl gn))] := hD
  refine lv_aload_n hx hb dX4_spans_5 rfl (lv_at hl 0 rfl) ?_
  refine va_get (D := (dC, dI)) (ci := 4) (v := .int (nI ct)) (C := RX4) (T := TX4) (N := 12) hx hb hw inX4 hown hK hP 0 rfl rfl 9 (by decide) (hw _ mw253) (fun _ h9 => h9) rfl dX4_spans_6 ?_
  subst hQ
  exact W.iret (v := (nI ct)) hx hb hr (fun t ht hW => ⟨⟨_, (), rfl, rfl, by rw [ht]; exact hP, hD⟩, hS.F ht⟩) hS.2.2 dX4_spans_9

abbrev rm_m_span : Room := { frames := 0, cells := 0, slots := 0, locals := 0 }
set_option maxHeartbeats 4000000 in
set_option maxRecDepth 100000 in
theorem m_span (l : Launch) (dC : Nat → ClassId) (dI : Nat → Nat → Nat) (sz : Nat) (mo mv mk ms ml mc mf mn : Nat) (jv jk js jl jc jf jn : ClassId) (fv fk gs gl gc gf gn : Nat → Int32) (nv nk sn ct : Nat) (th : Int32) (hv : nv ≤ 100) (hk : nk ≤ 100) (hct : ct ≤ 100) (i w : Int32) : Met l yX4_span (.code yX4_span cX4_span 3 (some (.int)) :: wsA) rm_m_span (va_Pc [.ref mo, .int (i), .int (w)] (wr (dC, dI) [(mo, .inr (4, [.int (th), .ref mv, .ref mk, .int (nI nv), .int (nI nk), .int (nI sn), .ref ms, .ref ml, .ref mc, .int (nI ct), .ref mf, .ref mn])), (mv, .inl (jv, 100, .inl fv)), (mk, .inl (jk, 100, .inl fk)), (ms, .inl (js, 100, .inl gs)), (ml, .inl (jl, 100, .inl gl)), (mc, .inl (jc, 10201, .inl gc)), (mf, .inl (jf, 100, .inl gf)), (mn, .inl (jn, 100, .inl gn))] [(jv, .int), (jk, .int), (js, .int), (jl, .int), (jc, .boolean), (jf, .int), (jn, .int)] sz)) (va_Qi (fun (r : Int32) (_ : Unit) => r = if w = 0 then ra gf ct i else if w = 1 then ra gn ct i else -1) (wB (dC, dI) (va_A [(mo, .inr (4, [.int (th), .ref mv, .ref mk, .int (nI nv), .int (nI nk), .int (nI sn), .ref ms, .ref ml, .ref mc, .int (nI ct), .ref mf, .ref mn])), (mv, .inl (jv, 100, .inl fv)), (mk, .inl (jk, 100, .inl fk)), (ms, .inl (js, 100, .inl gs)), (ml, .inl (jl, 100, .inl gl)), (mc, .inl (jc, 10201, .inl gc)), (mf, .inl (jf, 100, .inl gf)), (mn, .inl (jn, 100, .inl gn))] sz) (fun _ : Unit => [(mo, .inr (4, [.int (nI 0), .ref mv, .ref mk, .int (nI nv), .int (nI nk), .int (nI sn), .ref ms, .ref ml, .ref mc, .int (nI ct), .ref mf, .ref mn])), (mv, .inl (jv, 100, .inl fv)), (mk, .inl (jk, 100, .inl fk)), (ms, .inl (js, 100, .inl gs)), (ml, .inl (jl, 100, .inl gl)), (mc, .inl (jc, 10201, .inl gc)), (mf, .inl (jf, 100, .inl gf)), (mn, .inl (jn, 100, .inl gn))])) (va_A [(mo, .inr (4, [.int (th), .ref mv, .ref mk, .int (nI nv), .int (nI nk), .int (nI sn), .ref ms, .ref ml, .ref mc, .int (nI ct), .ref mf, .ref mn])), (mv, .inl (jv, 100, .inl fv)), (mk, .inl (jk, 100, .inl fk)), (ms, .inl (js, 100, .inl gs)), (ml, .inl (jl, 100, .inl gl)), (mc, .inl (jc, 10201, .inl gc)), (mf, .inl (jf, 100, .inl gf)), (mn, .inl (jn, 100, .inl gn))] sz)) 0 0 (va_A [(mo, .inr (4, [.int (th), .ref mv, .ref mk, .int (nI nv), .int (nI nk), .int (nI sn), .ref ms, .ref ml, .ref mc, .int (nI ct), .ref mf, .ref mn])), (mv, .inl (jv, 100, .inl fv)), (mk, .inl (jk, 100, .inl fk)), (ms, .inl (js, 100, .inl gs)), (ml, .inl (jl, 100, .inl gl)), (mc, .inl (jc, 10201, .inl gc)), (mf, .inl (jf, 100, .inl gf)), (mn, .inl (jn, 100, .inl gn))] sz) := by
  refine Met.ofW (cc := cX4_span) (maxL := 3) (ret := (some (.int))) (by decide) rfl ?_
  intro p e s m args below meth c s₁ B hml hv
  obtain ⟨hargs, hsz, hN, hP, hK, hD0⟩ := hv
  have hx := B.exec
  have hb := B.bytes
  have hr := B.returns
  have hw : ∀ w ∈ wsA, w.before args s = true := fun w h => atoms_spec (ws := (.code yX4_span cX4_span 3 (some (.int)) :: wsA)) B.pre w (List.mem_cons_of_mem _ h)
  have hown : s.vm.findClass "GlobDeskModel" = some m.cls := findClass_of_methodNamed B.named
  have hlocks := B.notSynchronized
  subst hsz
  have hD := hD0.self (sz := s.heap.size)
  generalize hAe : va_A [(mo, .inr (4, [.int (th), .ref mv, .ref mk, .int (nI nv), .int (nI nk), .int (nI sn), .ref ms, .ref ml, .ref mc, .int (nI ct), .ref mf, .ref mn])), (mv, .inl (jv, 100, .inl fv)), (mk, .inl (jk, 100, .inl fk)), (ms, .inl (js, 100, .inl gs)), (ml, .inl (jl, 100, .inl gl)), (mc, .inl (jc, 10201, .inl gc)), (mf, .inl (jf, 100, .inl gf)), (mn, .inl (jn, 100, .inl gn))] s.heap.size = A at hD ⊢
  have hA : ∀ q : Nat, s.heap.size ≤ q → A q := fun q h => by rw [← hAe]; exact Or.inr h
  have hS : va_S A s.heap s.heap [] := va_S.rf
  generalize hQ : MQ below _ args s _ _ _ = Q
  change W p l e rm_m_span s m args below meth c s.heap [] 0 0 Q (entryFrame m args 3)
  have hl := lv_entry ([.ref mo, .int (i), .int (w)]) (n := 3) (Nat.le_of_ble_eq_true rfl)
  rw [show entryFrame m args 3 = entryFrame m ([.ref mo, .int (i), .int (w)] : List Value).toArray 3 from by rw [hargs], lg_entry_eq]
  generalize (lg_sl ([.ref mo, .int (i), .int (w)]) ++ List.replicate (3 - (lg_sl ([.ref mo, .int (i), .int (w)])).length) Slot.unset).toArray = ls at hl ⊢
  have hl : lv_has ls 3 [(0, .ref mo), (1, .int (i)), (2, .int (w))] := hl
  refine lv_aload_n hx hb dX4_span_0 rfl (lv_at hl 0 rfl) ?_
  refine lv_iconst (v := 0) hx hb dX4_span_1 (by decide) ?_
  refine lv_topi (fun x1 ex1 => ?_)
  obtain rfl : x1 = nI 0 := by rw [ex1]; exact nI_0.symm
  refine va_put (D := (dC, dI)) (ci := 4) (v := .int (nI 0)) (ty := .int) (C := RX4) (T := TX4) (N := 12) hx hb hw inX4 tyX4 tyX4_ok nmX4 hown hK hP hD hS 0 rfl rfl 0 (by decide) (hw _ mw244) (fun _ h9 => h9) rfl (by decide +kernel) rfl rfl (Nat.le_of_ble_eq_true rfl) dX4_span_2 (fun H locs hP hD hS => ?_)
  have hP : va_P (dC, dI) cl5 [(mo, .inr (4, [.int (nI 0), .ref mv, .ref mk, .int (nI nv), .int (nI nk), .int (nI sn), .ref ms, .ref ml, .ref mc, .int (nI ct), .ref mf, .ref mn])), (mv, .inl (jv, 100, .inl fv)), (mk, .inl (jk, 100, .inl fk)), (ms, .inl (js, 100, .inl gs)), (ml, .inl (jl, 100, .inl gl)), (mc, .inl (jc, 10201, .inl gc)), (mf, .inl (jf, 100, .inl gf)), (mn, .inl (jn, 100, .inl gn))] H := hP
  have hD : va_D A [(mo, .inr (4, [.int (nI 0), .ref mv, .ref mk, .int (nI nv), .int (nI nk), .int (nI sn), .ref ms, .ref ml, .ref mc, .int (nI ct), .ref mf, .ref mn])), (mv, .inl (jv, 100, .inl fv)), (mk, .inl (jk, 100, .inl fk)), (ms, .inl (js, 100, .inl gs)), (ml, .inl (jl, 100, .inl gl)), (mc, .inl (jc, 10201, .inl gc)), (mf, .inl (jf, 100, .inl gf)), (mn, .inl (jn, 100, .inl gn))] := hD
  refine lv_iload_n hx hb dX4_span_5 rfl (lv_at hl 1 rfl) ?_
  refine lv_if_lt (tgt := 17) hx hb dX4_span_6 (by decide) (fun c6_1 => ?_) (fun c6_1 => ?_)
  · skip
    have z0 := c6_1
    refine lv_iconst (v := -1) hx hb dX4_span_17 (by decide) ?_
    subst hQ
    exact W.iret (v := (-1)) hx hb hr (fun t ht hW => ⟨⟨_, (), rfl, by first | exact bt_neg z0 | (rw [ra_big2 z1 hct, ra_big2 z1 hct]; split <;> first | rfl | (split <;> rfl)), by rw [ht]; exact hP, hD⟩, hS.F ht⟩) hS.2.2 dX4_span_18
  · skip
    have z0 := c6_1
    refine lv_iload_n hx hb dX4_span_9 rfl (lv_at hl 1 rfl) ?_
    refine lv_aload_n hx hb dX4_span_10 rfl (lv_at hl 0 rfl) ?_
    refine va_get (D := (dC, dI)) (ci := 4) (v := .int (nI ct)) (C := RX4) (T := TX4) (N := 12) hx hb hw inX4 hown hK hP 0 rfl rfl 9 (by decide) (hw _ mw253) (fun _ h9 => h9) rfl dX4_span_11 ?_
    refine lv_icmp_lt (tgt := 19) hx hb dX4_span_14 (by decide) (fun c14_2 => ?_) (fun c14_2 => ?_)
    · skip
      have z1 := c14_2
      refine lv_iload_n hx hb dX4_span_19 rfl (lv_at hl 2 rfl) ?_
      refine lv_if_ne (tgt := 32) hx hb dX4_span_20 (by decide) (fun c20_3 => ?_) (fun c20_3 => ?_)
      · skip
        have w0 := c20_3
        refine lv_iload_n hx hb dX4_span_32 rfl (lv_at hl 2 rfl) ?_
        refine lv_iconst (v := 1) hx hb dX4_span_33 (by decide) ?_
        refine lv_icmp_ne (tgt := 46) hx hb dX4_span_34 (by decide) (fun c34_4 => ?_) (fun c34_4 => ?_)
        · skip
          have w1 := c34_4
          refine lv_iconst (v := -1) hx hb dX4_span_46 (by decide) ?_
          subst hQ
          exact W.iret (v := (-1)) hx hb hr (fun t ht hW => ⟨⟨_, (), rfl, by first | (rw [if_pos w0]; exact ra_ok2 z0 z1 hct) | (rw [if_neg w0, if_pos w1]; exact ra_ok2 z0 z1 hct) | rw [if_neg w0, if_neg w1], by rw [ht]; exact hP, hD⟩, hS.F ht⟩) hS.2.2 dX4_span_47
        · skip
          have w1 := (by first | exact c34_4 | exact Decidable.not_not.mp c34_4)
          refine lv_aload_n hx hb dX4_span_37 rfl (lv_at hl 0 rfl) ?_
          refine va_get (D := (dC, dI)) (ci := 4) (v := .ref mn) (C := RX4) (T := TX4) (N := 12) hx hb hw inX4 hown hK hP 0 rfl rfl 11 (by decide) (hw _ mw255) (fun _ h9 => h9) rfl dX4_span_38 ?_
          refine lv_iload_n hx hb dX4_span_41 rfl (lv_at hl 1 rfl) ?_
          refine va_iald hx hb hK hP 7 6 rfl rfl (i := i) (ra_vp2 z0 z1 hct) dX4_span_42 ?_
          refine lv_goto (tgt := 47) hx hb dX4_span_43 (by decide) ?_
          subst hQ
          exact W.iret (v := (gn (i).toNatClampNeg)) hx hb hr (fun t ht hW => ⟨⟨_, (), rfl, by first | (rw [if_pos w0]; exact ra_ok2 z0 z1 hct) | (rw [if_neg w0, if_pos w1]; exact ra_ok2 z0 z1 hct) | rw [if_neg w0, if_neg w1], by rw [ht]; exact hP, hD⟩, hS.F ht⟩) hS.2.2 dX4_span_47
      · skip
        have w0 := (by first | exact c20_3 | exact Decidable.not_not.mp c20_3)
        refine lv_aload_n hx hb dX4_span_23 rfl (lv_at hl 0 rfl) ?_
        refine va_get (D := (dC, dI)) (ci := 4) (v := .ref mf) (C := RX4) (T := TX4) (N := 12) hx hb hw inX4 hown hK hP 0 rfl rfl 10 (by decide) (hw _ mw254) (fun _ h9 => h9) rfl dX4_span_24 ?_
        refine lv_iload_n hx hb dX4_span_27 rfl (lv_at hl 1 rfl) ?_
        refine va_iald hx hb hK hP 6 5 rfl rfl (i := i) (ra_vp2 z0 z1 hct) dX4_span_28 ?_
        refine lv_goto (tgt := 47) hx hb dX4_span_29 (by decide) ?_
        subst hQ
        exact W.iret (v := (gf (i).toNatClampNeg)) hx hb hr (fun t ht hW => ⟨⟨_, (), rfl, by first | (rw [if_pos w0]; exact ra_ok2 z0 z1 hct) | (rw [if_neg w0, if_pos w1]; exact ra_ok2 z0 z1 hct) | rw [if_neg w0, if_neg w1], by rw [ht]; exact hP, hD⟩, hS.F ht⟩) hS.2.2 dX4_span_47
    · skip
      have z1 := c14_2
      refine lv_iconst (v := -1) hx hb dX4_span_17 (by decide) ?_
      subst hQ
      exact W.iret (v := (-1)) hx hb hr (fun t ht hW => ⟨⟨_, (), rfl, by first | exact bt_neg z0 | (rw [ra_big2 z1 hct, ra_big2 z1 hct]; split <;> first | rfl | (split <;> rfl)), by rw [ht]; exact hP, hD⟩, hS.F ht⟩) hS.2.2 dX4_span_18

abbrev rm_m_order : Room := { frames := 3, cells := 0, slots := 0, locals := 70 }
set_option maxHeartbeats 4000000 in
set_option maxRecDepth 100000 in
theorem m_order (l : Launch) (dC : Nat → ClassId) (dI : Nat → Nat → Nat) (sz : Nat) (mo mv mk ms ml mc mf mn : Nat) (jv jk js jl jc jf jn : ClassId) (fv fk gs gl gc gf gn : Nat → Int32) (nv nk sn ct : Nat) (th : Int32) (hv : nv ≤ 100) (hk : nk ≤ 100) (cp : Int32) : Met l yX4_order (.code yX4_order cX4_order 2 (some (.int)) :: wsA) rm_m_order (va_Pc [.ref mo, .int (cp)] (wr (dC, dI) [(mo, .inr (4, [.int (th), .ref mv, .ref mk, .int (nI nv), .int (nI nk), .int (nI sn), .ref ms, .ref ml, .ref mc, .int (nI ct), .ref mf, .ref mn])), (mv, .inl (jv, 100, .inl fv)), (mk, .inl (jk, 100, .inl fk)), (ms, .inl (js, 100, .inl gs)), (ml, .inl (jl, 100, .inl gl)), (mc, .inl (jc, 10201, .inl gc)), (mf, .inl (jf, 100, .inl gf)), (mn, .inl (jn, 100, .inl gn))] [(jv, .int), (jk, .int), (js, .int), (jl, .int), (jc, .boolean), (jf, .int), (jn, .int)] sz)) (va_Qi (fun (r : Int32) (_ : Unit) => r = if 0 ≤ cp.toInt ∧ cp.toInt ≤ 2 then stF fv fk nv nk cp else -2) (wB (dC, dI) (va_A [(mo, .inr (4, [.int (th), .ref mv, .ref mk, .int (nI nv), .int (nI nk), .int (nI sn), .ref ms, .ref ml, .ref mc, .int (nI ct), .ref mf, .ref mn])), (mv, .inl (jv, 100, .inl fv)), (mk, .inl (jk, 100, .inl fk)), (ms, .inl (js, 100, .inl gs)), (ml, .inl (jl, 100, .inl gl)), (mc, .inl (jc, 10201, .inl gc)), (mf, .inl (jf, 100, .inl gf)), (mn, .inl (jn, 100, .inl gn))] sz) (fun _ : Unit => [(mo, .inr (4, [.int (nI 0), .ref mv, .ref mk, .int (nI nv), .int (nI nk), .int (nI sn), .ref ms, .ref ml, .ref mc, .int (nI ct), .ref mf, .ref mn])), (mv, .inl (jv, 100, .inl fv)), (mk, .inl (jk, 100, .inl fk)), (ms, .inl (js, 100, .inl gs)), (ml, .inl (jl, 100, .inl gl)), (mc, .inl (jc, 10201, .inl gc)), (mf, .inl (jf, 100, .inl gf)), (mn, .inl (jn, 100, .inl gn))])) (va_A [(mo, .inr (4, [.int (th), .ref mv, .ref mk, .int (nI nv), .int (nI nk), .int (nI sn), .ref ms, .ref ml, .ref mc, .int (nI ct), .ref mf, .ref mn])), (mv, .inl (jv, 100, .inl fv)), (mk, .inl (jk, 100, .inl fk)), (ms, .inl (js, 100, .inl gs)), (ml, .inl (jl, 100, .inl gl)), (mc, .inl (jc, 10201, .inl gc)), (mf, .inl (jf, 100, .inl gf)), (mn, .inl (jn, 100, .inl gn))] sz)) 0 0 (va_A [(mo, .inr (4, [.int (th), .ref mv, .ref mk, .int (nI nv), .int (nI nk), .int (nI sn), .ref ms, .ref ml, .ref mc, .int (nI ct), .ref mf, .ref mn])), (mv, .inl (jv, 100, .inl fv)), (mk, .inl (jk, 100, .inl fk)), (ms, .inl (js, 100, .inl gs)), (ml, .inl (jl, 100, .inl gl)), (mc, .inl (jc, 10201, .inl gc)), (mf, .inl (jf, 100, .inl gf)), (mn, .inl (jn, 100, .inl gn))] sz) := by
  refine Met.ofW (cc := cX4_order) (maxL := 2) (ret := (some (.int))) (by decide) rfl ?_
  intro p e s m args below meth c s₁ B hml hv
  obtain ⟨hargs, hsz, hN, hP, hK, hD0⟩ := hv
  have hx := B.exec
  have hb := B.bytes
  have hr := B.returns
  have hw : ∀ w ∈ wsA, w.before args s = true := fun w h => atoms_spec (ws := (.code yX4_order cX4_order 2 (some (.int)) :: wsA)) B.pre w (List.mem_cons_of_mem _ h)
  have hown : s.vm.findClass "GlobDeskModel" = some m.cls := findClass_of_methodNamed B.named
  have hlocks := B.notSynchronized
  subst hsz
  have hD := hD0.self (sz := s.heap.size)
  generalize hAe : va_A [(mo, .inr (4, [.int (th), .ref mv, .ref mk, .int (nI nv), .int (nI nk), .int (nI sn), .ref ms, .ref ml, .ref mc, .int (nI ct), .ref mf, .ref mn])), (mv, .inl (jv, 100, .inl fv)), (mk, .inl (jk, 100, .inl fk)), (ms, .inl (js, 100, .inl gs)), (ml, .inl (jl, 100, .inl gl)), (mc, .inl (jc, 10201, .inl gc)), (mf, .inl (jf, 100, .inl gf)), (mn, .inl (jn, 100, .inl gn))] s.heap.size = A at hD ⊢
  have hA : ∀ q : Nat, s.heap.size ≤ q → A q := fun q h => by rw [← hAe]; exact Or.inr h
  have hS : va_S A s.heap s.heap [] := va_S.rf
  generalize hQ : MQ below _ args s _ _ _ = Q
  change W p l e rm_m_order s m args below meth c s.heap [] 0 0 Q (entryFrame m args 2)
  have hl := lv_entry ([.ref mo, .int (cp)]) (n := 2) (Nat.le_of_ble_eq_true rfl)
  rw [show entryFrame m args 2 = entryFrame m ([.ref mo, .int (cp)] : List Value).toArray 2 from by rw [hargs], lg_entry_eq]
  generalize (lg_sl ([.ref mo, .int (cp)]) ++ List.replicate (2 - (lg_sl ([.ref mo, .int (cp)])).length) Slot.unset).toArray = ls at hl ⊢
  have hl : lv_has ls 2 [(0, .ref mo), (1, .int (cp))] := hl
  refine lv_aload_n hx hb dX4_order_0 rfl (lv_at hl 0 rfl) ?_
  refine lv_iconst (v := 0) hx hb dX4_order_1 (by decide) ?_
  refine lv_topi (fun x1 ex1 => ?_)
  obtain rfl : x1 = nI 0 := by rw [ex1]; exact nI_0.symm
  refine va_put (D := (dC, dI)) (ci := 4) (v := .int (nI 0)) (ty := .int) (C := RX4) (T := TX4) (N := 12) hx hb hw inX4 tyX4 tyX4_ok nmX4 hown hK hP hD hS 0 rfl rfl 0 (by decide) (hw _ mw244) (fun _ h9 => h9) rfl (by decide +kernel) rfl rfl (Nat.le_of_ble_eq_true rfl) dX4_order_2 (fun H locs hP hD hS => ?_)
  have hP : va_P (dC, dI) cl5 [(mo, .inr (4, [.int (nI 0), .ref mv, .ref mk, .int (nI nv), .int (nI nk), .int (nI sn), .ref ms, .ref ml, .ref mc, .int (nI ct), .ref mf, .ref mn])), (mv, .inl (jv, 100, .inl fv)), (mk, .inl (jk, 100, .inl fk)), (ms, .inl (js, 100, .inl gs)), (ml, .inl (jl, 100, .inl gl)), (mc, .inl (jc, 10201, .inl gc)), (mf, .inl (jf, 100, .inl gf)), (mn, .inl (jn, 100, .inl gn))] H := hP
  have hD : va_D A [(mo, .inr (4, [.int (nI 0), .ref mv, .ref mk, .int (nI nv), .int (nI nk), .int (nI sn), .ref ms, .ref ml, .ref mc, .int (nI ct), .ref mf, .ref mn])), (mv, .inl (jv, 100, .inl fv)), (mk, .inl (jk, 100, .inl fk)), (ms, .inl (js, 100, .inl gs)), (ml, .inl (jl, 100, .inl gl)), (mc, .inl (jc, 10201, .inl gc)), (mf, .inl (jf, 100, .inl gf)), (mn, .inl (jn, 100, .inl gn))] := hD
  refine lv_iload_n hx hb dX4_order_5 rfl (lv_at hl 1 rfl) ?_
  refine lv_if_lt (tgt := 14) hx hb dX4_order_6 (by decide) (fun c6_1 => ?_) (fun c6_1 => ?_)
  · skip
    rw [ti_lt, tc_0] at c6_1
    refine lv_bipush (v := -2) hx hb dX4_order_14 (by decide) ?_
    refine lv_goto (tgt := 24) hx hb dX4_order_16 (by decide) ?_
    subst hQ
    exact W.iret (v := (-2)) hx hb hr (fun t ht hW => ⟨⟨_, (), rfl, by first | exact (if_neg (by omega)).symm | exact (if_pos (by omega)).symm, by rw [ht]; exact hP, hD⟩, hS.F ht⟩) hS.2.2 dX4_order_24
  · skip
    rw [ti_lt, tc_0] at c6_1
    refine lv_iload_n hx hb dX4_order_9 rfl (lv_at hl 1 rfl) ?_
    refine lv_iconst (v := 2) hx hb dX4_order_10 (by decide) ?_
    refine lv_icmp_le (tgt := 19) hx hb dX4_order_11 (by decide) (fun c11_2 => ?_) (fun c11_2 => ?_)
    · skip
      rw [ti_le, tc_2] at c11_2
      refine lv_aload_n hx hb dX4_order_19 rfl (lv_at hl 0 rfl) ?_
      refine lv_iload_n hx hb dX4_order_20 rfl (lv_at hl 1 rfl) ?_
      refine vp_callSi (va_Run.run (va_runV (As := [.int (cp)]) (rest := []) ⟨hx, hb, hml, hown, hw⟩ (m_cmp l dC dI mo mv mk ms ml mc mf mn jv jk js jl jc jf jn fv fk gs gl gc gf gn nv nk sn ct (nI 0) hv hk cp) (cwV 1 hw (gV mw294 mw296 mw10 mw20 mw297) rfl rfl rfl (by decide +kernel) ⟨Nat.le_of_ble_eq_true rfl, Nat.le_of_ble_eq_true rfl⟩) (ro.V (q0 := 0) (ci := 4) hN (hK.sub (tys' := [(jv, .int), (jk, .int), (js, .int), (jl, .int), (jc, .boolean), (jf, .int), (jn, .int)]) [0, 1, 2, 3, 4, 5, 6] rfl) (hP.sub (ws' := [(mo, .inr (4, [.int (nI 0), .ref mv, .ref mk, .int (nI nv), .int (nI nk), .int (nI sn), .ref ms, .ref ml, .ref mc, .int (nI ct), .ref mf, .ref mn])), (mv, .inl (jv, 100, .inl fv)), (mk, .inl (jk, 100, .inl fk)), (ms, .inl (js, 100, .inl gs)), (ml, .inl (jl, 100, .inl gl)), (mc, .inl (jc, 10201, .inl gc)), (mf, .inl (jf, 100, .inl gf)), (mn, .inl (jn, 100, .inl gn))]) [0, 1, 2, 3, 4, 5, 6, 7] rfl) rfl rfl) rfl rfl hl.1 rfl (lv_room (Nat.le_of_ble_eq_true rfl)) dX4_order_21 ⟨Nat.le_of_ble_eq_true rfl, Nat.le_of_ble_eq_true rfl⟩)) (fun r4 hr4 => ?_)
      subst hr4
      subst hQ
      exact W.iret (v := (stF fv fk nv nk cp)) hx hb hr (fun t ht hW => ⟨⟨_, (), rfl, by first | exact (if_neg (by omega)).symm | exact (if_pos (by omega)).symm, by rw [ht]; exact hP, hD⟩, hS.F ht⟩) hS.2.2 dX4_order_24
    · skip
      rw [ti_le, tc_2] at c11_2
      refine lv_bipush (v := -2) hx hb dX4_order_14 (by decide) ?_
      refine lv_goto (tgt := 24) hx hb dX4_order_16 (by decide) ?_
      subst hQ
      exact W.iret (v := (-2)) hx hb hr (fun t ht hW => ⟨⟨_, (), rfl, by first | exact (if_neg (by omega)).symm | exact (if_pos (by omega)).symm, by rw [ht]; exact hP, hD⟩, hS.F ht⟩) hS.2.2 dX4_order_24

abbrev rm_m_byteAt : Room := { frames := 0, cells := 0, slots := 0, locals := 0 }
set_option maxHeartbeats 4000000 in
set_option maxRecDepth 100000 in
theorem m_byteAt (l : Launch) (dC : Nat → ClassId) (dI : Nat → Nat → Nat) (sz : Nat) (mo mv mk ms ml mc mf mn : Nat) (jv jk js jl jc jf jn : ClassId) (fv fk gs gl gc gf gn : Nat → Int32) (nv nk sn ct : Nat) (th : Int32) (hv : nv ≤ 100) (hk : nk ≤ 100) (w i : Int32) : Met l yX4_byteAt (.code yX4_byteAt cX4_byteAt 3 (some (.int)) :: wsA) rm_m_byteAt (va_Pc [.ref mo, .int (w), .int (i)] (wr (dC, dI) [(mo, .inr (4, [.int (th), .ref mv, .ref mk, .int (nI nv), .int (nI nk), .int (nI sn), .ref ms, .ref ml, .ref mc, .int (nI ct), .ref mf, .ref mn])), (mv, .inl (jv, 100, .inl fv)), (mk, .inl (jk, 100, .inl fk)), (ms, .inl (js, 100, .inl gs)), (ml, .inl (jl, 100, .inl gl)), (mc, .inl (jc, 10201, .inl gc)), (mf, .inl (jf, 100, .inl gf)), (mn, .inl (jn, 100, .inl gn))] [(jv, .int), (jk, .int), (js, .int), (jl, .int), (jc, .boolean), (jf, .int), (jn, .int)] sz)) (va_Qi (fun (r : Int32) (_ : Unit) => r = if w = 0 then ra fv nv i else if w = 1 then ra fk nk i else -1) (wB (dC, dI) (va_A [(mo, .inr (4, [.int (th), .ref mv, .ref mk, .int (nI nv), .int (nI nk), .int (nI sn), .ref ms, .ref ml, .ref mc, .int (nI ct), .ref mf, .ref mn])), (mv, .inl (jv, 100, .inl fv)), (mk, .inl (jk, 100, .inl fk)), (ms, .inl (js, 100, .inl gs)), (ml, .inl (jl, 100, .inl gl)), (mc, .inl (jc, 10201, .inl gc)), (mf, .inl (jf, 100, .inl gf)), (mn, .inl (jn, 100, .inl gn))] sz) (fun _ : Unit => [(mo, .inr (4, [.int (nI 0), .ref mv, .ref mk, .int (nI nv), .int (nI nk), .int (nI sn), .ref ms, .ref ml, .ref mc, .int (nI ct), .ref mf, .ref mn])), (mv, .inl (jv, 100, .inl fv)), (mk, .inl (jk, 100, .inl fk)), (ms, .inl (js, 100, .inl gs)), (ml, .inl (jl, 100, .inl gl)), (mc, .inl (jc, 10201, .inl gc)), (mf, .inl (jf, 100, .inl gf)), (mn, .inl (jn, 100, .inl gn))])) (va_A [(mo, .inr (4, [.int (th), .ref mv, .ref mk, .int (nI nv), .int (nI nk), .int (nI sn), .ref ms, .ref ml, .ref mc, .int (nI ct), .ref mf, .ref mn])), (mv, .inl (jv, 100, .inl fv)), (mk, .inl (jk, 100, .inl fk)), (ms, .inl (js, 100, .inl gs)), (ml, .inl (jl, 100, .inl gl)), (mc, .inl (jc, 10201, .inl gc)), (mf, .inl (jf, 100, .inl gf)), (mn, .inl (jn, 100, .inl gn))] sz)) 0 0 (va_A [(mo, .inr (4, [.int (th), .ref mv, .ref mk, .int (nI nv), .int (nI nk), .int (nI sn), .ref ms, .ref ml, .ref mc, .int (nI ct), .ref mf, .ref mn])), (mv, .inl (jv, 100, .inl fv)), (mk, .inl (jk, 100, .inl fk)), (ms, .inl (js, 100, .inl gs)), (ml, .inl (jl, 100, .inl gl)), (mc, .inl (jc, 10201, .inl gc)), (mf, .inl (jf, 100, .inl gf)), (mn, .inl (jn, 100, .inl gn))] sz) := by
  refine Met.ofW (cc := cX4_byteAt) (maxL := 3) (ret := (some (.int))) (by decide) rfl ?_
  intro p e s m args below meth c s₁ B hml hv
  obtain ⟨hargs, hsz, hN, hP, hK, hD0⟩ := hv
  have hx := B.exec
  have hb := B.bytes
  have hr := B.returns
  have hw : ∀ w ∈ wsA, w.before args s = true := fun w h => atoms_spec (ws := (.code yX4_byteAt cX4_byteAt 3 (some (.int)) :: wsA)) B.pre w (List.mem_cons_of_mem _ h)
  have hown : s.vm.findClass "GlobDeskModel" = some m.cls := findClass_of_methodNamed B.named
  have hlocks := B.notSynchronized
  subst hsz
  have hD := hD0.self (sz := s.heap.size)
  generalize hAe : va_A [(mo, .inr (4, [.int (th), .ref mv, .ref mk, .int (nI nv), .int (nI nk), .int (nI sn), .ref ms, .ref ml, .ref mc, .int (nI ct), .ref mf, .ref mn])), (mv, .inl (jv, 100, .inl fv)), (mk, .inl (jk, 100, .inl fk)), (ms, .inl (js, 100, .inl gs)), (ml, .inl (jl, 100, .inl gl)), (mc, .inl (jc, 10201, .inl gc)), (mf, .inl (jf, 100, .inl gf)), (mn, .inl (jn, 100, .inl gn))] s.heap.size = A at hD ⊢
  have hA : ∀ q : Nat, s.heap.size ≤ q → A q := fun q h => by rw [← hAe]; exact Or.inr h
  have hS : va_S A s.heap s.heap [] := va_S.rf
  generalize hQ : MQ below _ args s _ _ _ = Q
  change W p l e rm_m_byteAt s m args below meth c s.heap [] 0 0 Q (entryFrame m args 3)
  have hl := lv_entry ([.ref mo, .int (w), .int (i)]) (n := 3) (Nat.le_of_ble_eq_true rfl)
  rw [show entryFrame m args 3 = entryFrame m ([.ref mo, .int (w), .int (i)] : List Value).toArray 3 from by rw [hargs], lg_entry_eq]
  generalize (lg_sl ([.ref mo, .int (w), .int (i)]) ++ List.replicate (3 - (lg_sl ([.ref mo, .int (w), .int (i)])).length) Slot.unset).toArray = ls at hl ⊢
  have hl : lv_has ls 3 [(0, .ref mo), (1, .int (w)), (2, .int (i))] := hl
  refine lv_aload_n hx hb dX4_byteAt_0 rfl (lv_at hl 0 rfl) ?_
  refine lv_iconst (v := 0) hx hb dX4_byteAt_1 (by decide) ?_
  refine lv_topi (fun x1 ex1 => ?_)
  obtain rfl : x1 = nI 0 := by rw [ex1]; exact nI_0.symm
  refine va_put (D := (dC, dI)) (ci := 4) (v := .int (nI 0)) (ty := .int) (C := RX4) (T := TX4) (N := 12) hx hb hw inX4 tyX4 tyX4_ok nmX4 hown hK hP hD hS 0 rfl rfl 0 (by decide) (hw _ mw244) (fun _ h9 => h9) rfl (by decide +kernel) rfl rfl (Nat.le_of_ble_eq_true rfl) dX4_byteAt_2 (fun H locs hP hD hS => ?_)
  have hP : va_P (dC, dI) cl5 [(mo, .inr (4, [.int (nI 0), .ref mv, .ref mk, .int (nI nv), .int (nI nk), .int (nI sn), .ref ms, .ref ml, .ref mc, .int (nI ct), .ref mf, .ref mn])), (mv, .inl (jv, 100, .inl fv)), (mk, .inl (jk, 100, .inl fk)), (ms, .inl (js, 100, .inl gs)), (ml, .inl (jl, 100, .inl gl)), (mc, .inl (jc, 10201, .inl gc)), (mf, .inl (jf, 100, .inl gf)), (mn, .inl (jn, 100, .inl gn))] H := hP
  have hD : va_D A [(mo, .inr (4, [.int (nI 0), .ref mv, .ref mk, .int (nI nv), .int (nI nk), .int (nI sn), .ref ms, .ref ml, .ref mc, .int (nI ct), .ref mf, .ref mn])), (mv, .inl (jv, 100, .inl fv)), (mk, .inl (jk, 100, .inl fk)), (ms, .inl (js, 100, .inl gs)), (ml, .inl (jl, 100, .inl gl)), (mc, .inl (jc, 10201, .inl gc)), (mf, .inl (jf, 100, .inl gf)), (mn, .inl (jn, 100, .inl gn))] := hD
  refine lv_iload_n hx hb dX4_byteAt_5 rfl (lv_at hl 2 rfl) ?_
  refine lv_if_lt (tgt := 37) hx hb dX4_byteAt_6 (by decide) (fun c6_1 => ?_) (fun c6_1 => ?_)
  · skip
    have z0 := c6_1
    refine lv_iconst (v := -1) hx hb dX4_byteAt_37 (by decide) ?_
    subst hQ
    exact W.iret (v := (-1)) hx hb hr (fun t ht hW => ⟨⟨_, (), rfl, by first | exact bt_neg z0 | (rw [if_neg wo.1, if_neg wo.2]; done) | (rw [if_pos w0, ra_big2 z1 hv]; done) | (rw [if_neg w0, if_pos (one32 (by omega) (by omega) w0), ra_big2 z1 hk]; done), by rw [ht]; exact hP, hD⟩, hS.F ht⟩) hS.2.2 dX4_byteAt_38
  · skip
    have z0 := c6_1
    refine lv_iload_n hx hb dX4_byteAt_9 rfl (lv_at hl 1 rfl) ?_
    refine lv_if_lt (tgt := 37) hx hb dX4_byteAt_10 (by decide) (fun c10_2 => ?_) (fun c10_2 => ?_)
    · skip
      rw [ti_lt, tc_0] at c10_2
      have wo : ¬ w = 0 ∧ ¬ w = 1 := ⟨fun q => by rw [q, tc_0] at c10_2; omega, fun q => by rw [q, tc_1] at c10_2; omega⟩
      refine lv_iconst (v := -1) hx hb dX4_byteAt_37 (by decide) ?_
      subst hQ
      exact W.iret (v := (-1)) hx hb hr (fun t ht hW => ⟨⟨_, (), rfl, by first | exact bt_neg z0 | (rw [if_neg wo.1, if_neg wo.2]; done) | (rw [if_pos w0, ra_big2 z1 hv]; done) | (rw [if_neg w0, if_pos (one32 (by omega) (by omega) w0), ra_big2 z1 hk]; done), by rw [ht]; exact hP, hD⟩, hS.F ht⟩) hS.2.2 dX4_byteAt_38
    · skip
      rw [ti_lt, tc_0] at c10_2
      refine lv_iload_n hx hb dX4_byteAt_13 rfl (lv_at hl 1 rfl) ?_
      refine lv_iconst (v := 1) hx hb dX4_byteAt_14 (by decide) ?_
      refine lv_icmp_gt (tgt := 37) hx hb dX4_byteAt_15 (by decide) (fun c15_3 => ?_) (fun c15_3 => ?_)
      · skip
        rw [ti_lt, tc_1] at c15_3
        have wo : ¬ w = 0 ∧ ¬ w = 1 := ⟨fun q => by rw [q, tc_0] at c15_3; omega, fun q => by rw [q, tc_1] at c15_3; omega⟩
        refine lv_iconst (v := -1) hx hb dX4_byteAt_37 (by decide) ?_
        subst hQ
        exact W.iret (v := (-1)) hx hb hr (fun t ht hW => ⟨⟨_, (), rfl, by first | exact bt_neg z0 | (rw [if_neg wo.1, if_neg wo.2]; done) | (rw [if_pos w0, ra_big2 z1 hv]; done) | (rw [if_neg w0, if_pos (one32 (by omega) (by omega) w0), ra_big2 z1 hk]; done), by rw [ht]; exact hP, hD⟩, hS.F ht⟩) hS.2.2 dX4_byteAt_38
      · skip
        rw [ti_lt, tc_1] at c15_3
        refine lv_iload_n hx hb dX4_byteAt_18 rfl (lv_at hl 2 rfl) ?_
        refine lv_iload_n hx hb dX4_byteAt_19 rfl (lv_at hl 1 rfl) ?_
        refine lv_if_ne (tgt := 30) hx hb dX4_byteAt_20 (by decide) (fun c20_4 => ?_) (fun c20_4 => ?_)
        · skip
          have w0 : ¬ w = 0 := c20_4
          refine lv_aload_n hx hb dX4_byteAt_30 rfl (lv_at hl 0 rfl) ?_
          refine va_get (D := (dC, dI)) (ci := 4) (v := .int (nI nk)) (C := RX4) (T := TX4) (N := 12) hx hb hw inX4 hown hK hP 0 rfl rfl 4 (by decide) (hw _ mw248) (fun _ h9 => h9) rfl dX4_byteAt_31 ?_
          refine lv_icmp_lt (tgt := 39) hx hb dX4_byteAt_34 (by decide) (fun c34_5 => ?_) (fun c34_5 => ?_)
          · skip
            have z1 := c34_5
            refine lv_iload_n hx hb dX4_byteAt_39 rfl (lv_at hl 1 rfl) ?_
            refine lv_if_ne (tgt := 52) hx hb dX4_byteAt_40 (by decide) (fun c40_6 => ?_) (fun c40_6 => ?_)
            · skip
              refine lv_aload_n hx hb dX4_byteAt_52 rfl (lv_at hl 0 rfl) ?_
              refine va_get (D := (dC, dI)) (ci := 4) (v := .ref mk) (C := RX4) (T := TX4) (N := 12) hx hb hw inX4 hown hK hP 0 rfl rfl 2 (by decide) (hw _ mw246) (fun _ h9 => h9) rfl dX4_byteAt_53 ?_
              refine lv_iload_n hx hb dX4_byteAt_56 rfl (lv_at hl 2 rfl) ?_
              refine va_iald hx hb hK hP 2 1 rfl rfl (i := i) (ra_vp2 z0 z1 hk) dX4_byteAt_57 ?_
              subst hQ
              exact W.iret (v := (fk (i).toNatClampNeg)) hx hb hr (fun t ht hW => ⟨⟨_, (), rfl, by first | (rw [if_pos w0]; exact ra_ok2 z0 z1 hv) | (rw [if_neg w0, if_pos (one32 (by omega) (by omega) w0)]; exact ra_ok2 z0 z1 hk), by rw [ht]; exact hP, hD⟩, hS.F ht⟩) hS.2.2 dX4_byteAt_58
            · skip
              exact absurd (by first | exact c40_6 | exact Decidable.not_not.mp c40_6) w0
          · skip
            have z1 := c34_5
            refine lv_iconst (v := -1) hx hb dX4_byteAt_37 (by decide) ?_
            subst hQ
            exact W.iret (v := (-1)) hx hb hr (fun t ht hW => ⟨⟨_, (), rfl, by first | exact bt_neg z0 | (rw [if_neg wo.1, if_neg wo.2]; done) | (rw [if_pos w0, ra_big2 z1 hv]; done) | (rw [if_neg w0, if_pos (one32 (by omega) (by omega) w0), ra_big2 z1 hk]; done), by rw [ht]; exact hP, hD⟩, hS.F ht⟩) hS.2.2 dX4_byteAt_38
        · skip
          have w0 : w = 0 := (by first | exact c20_4 | exact Decidable.not_not.mp c20_4)
          refine lv_aload_n hx hb dX4_byteAt_23 rfl (lv_at hl 0 rfl) ?_
          refine va_get (D := (dC, dI)) (ci := 4) (v := .int (nI nv)) (C := RX4) (T := TX4) (N := 12) hx hb hw inX4 hown hK hP 0 rfl rfl 3 (by decide) (hw _ mw247) (fun _ h9 => h9) rfl dX4_byteAt_24 ?_
          refine lv_goto (tgt := 34) hx hb dX4_byteAt_27 (by decide) ?_
          refine lv_icmp_lt (tgt := 39) hx hb dX4_byteAt_34 (by decide) (fun c34_7 => ?_) (fun c34_7 => ?_)
          · skip
            have z1 := c34_7
            refine lv_iload_n hx hb dX4_byteAt_39 rfl (lv_at hl 1 rfl) ?_
            refine lv_if_ne (tgt := 52) hx hb dX4_byteAt_40 (by decide) (fun c40_8 => ?_) (fun c40_8 => ?_)
            · skip
              exact absurd w0 c40_8
            · skip
              refine lv_aload_n hx hb dX4_byteAt_43 rfl (lv_at hl 0 rfl) ?_
              refine va_get (D := (dC, dI)) (ci := 4) (v := .ref mv) (C := RX4) (T := TX4) (N := 12) hx hb hw inX4 hown hK hP 0 rfl rfl 1 (by decide) (hw _ mw245) (fun _ h9 => h9) rfl dX4_byteAt_44 ?_
              refine lv_iload_n hx hb dX4_byteAt_47 rfl (lv_at hl 2 rfl) ?_
              refine va_iald hx hb hK hP 1 0 rfl rfl (i := i) (ra_vp2 z0 z1 hv) dX4_byteAt_48 ?_
              refine lv_goto (tgt := 58) hx hb dX4_byteAt_49 (by decide) ?_
              subst hQ
              exact W.iret (v := (fv (i).toNatClampNeg)) hx hb hr (fun t ht hW => ⟨⟨_, (), rfl, by first | (rw [if_pos w0]; exact ra_ok2 z0 z1 hv) | (rw [if_neg w0, if_pos (one32 (by omega) (by omega) w0)]; exact ra_ok2 z0 z1 hk), by rw [ht]; exact hP, hD⟩, hS.F ht⟩) hS.2.2 dX4_byteAt_58
          · skip
            have z1 := c34_7
            refine lv_iconst (v := -1) hx hb dX4_byteAt_37 (by decide) ?_
            subst hQ
            exact W.iret (v := (-1)) hx hb hr (fun t ht hW => ⟨⟨_, (), rfl, by first | exact bt_neg z0 | (rw [if_neg wo.1, if_neg wo.2]; done) | (rw [if_pos w0, ra_big2 z1 hv]; done) | (rw [if_neg w0, if_pos (one32 (by omega) (by omega) w0), ra_big2 z1 hk]; done), by rw [ht]; exact hP, hD⟩, hS.F ht⟩) hS.2.2 dX4_byteAt_38

abbrev rm_m_size : Room := { frames := 0, cells := 0, slots := 0, locals := 0 }
set_option maxHeartbeats 4000000 in
set_option maxRecDepth 100000 in
theorem m_size (l : Launch) (dC : Nat → ClassId) (dI : Nat → Nat → Nat) (sz : Nat) (mo mv mk ms ml mc mf mn : Nat) (jv jk js jl jc jf jn : ClassId) (fv fk gs gl gc gf gn : Nat → Int32) (nv nk sn ct : Nat) (th : Int32) (hv : nv ≤ 100) (hk : nk ≤ 100) (w : Int32) : Met l yX4_size (.code yX4_size cX4_size 2 (some (.int)) :: wsA) rm_m_size (va_Pc [.ref mo, .int (w)] (wr (dC, dI) [(mo, .inr (4, [.int (th), .ref mv, .ref mk, .int (nI nv), .int (nI nk), .int (nI sn), .ref ms, .ref ml, .ref mc, .int (nI ct), .ref mf, .ref mn])), (mv, .inl (jv, 100, .inl fv)), (mk, .inl (jk, 100, .inl fk)), (ms, .inl (js, 100, .inl gs)), (ml, .inl (jl, 100, .inl gl)), (mc, .inl (jc, 10201, .inl gc)), (mf, .inl (jf, 100, .inl gf)), (mn, .inl (jn, 100, .inl gn))] [(jv, .int), (jk, .int), (js, .int), (jl, .int), (jc, .boolean), (jf, .int), (jn, .int)] sz)) (va_Qi (fun (r : Int32) (_ : Unit) => r = if w = 0 then nI nv else if w = 1 then nI nk else -1) (wB (dC, dI) (va_A [(mo, .inr (4, [.int (th), .ref mv, .ref mk, .int (nI nv), .int (nI nk), .int (nI sn), .ref ms, .ref ml, .ref mc, .int (nI ct), .ref mf, .ref mn])), (mv, .inl (jv, 100, .inl fv)), (mk, .inl (jk, 100, .inl fk)), (ms, .inl (js, 100, .inl gs)), (ml, .inl (jl, 100, .inl gl)), (mc, .inl (jc, 10201, .inl gc)), (mf, .inl (jf, 100, .inl gf)), (mn, .inl (jn, 100, .inl gn))] sz) (fun _ : Unit => [(mo, .inr (4, [.int (nI 0), .ref mv, .ref mk, .int (nI nv), .int (nI nk), .int (nI sn), .ref ms, .ref ml, .ref mc, .int (nI ct), .ref mf, .ref mn])), (mv, .inl (jv, 100, .inl fv)), (mk, .inl (jk, 100, .inl fk)), (ms, .inl (js, 100, .inl gs)), (ml, .inl (jl, 100, .inl gl)), (mc, .inl (jc, 10201, .inl gc)), (mf, .inl (jf, 100, .inl gf)), (mn, .inl (jn, 100, .inl gn))])) (va_A [(mo, .inr (4, [.int (th), .ref mv, .ref mk, .int (nI nv), .int (nI nk), .int (nI sn), .ref ms, .ref ml, .ref mc, .int (nI ct), .ref mf, .ref mn])), (mv, .inl (jv, 100, .inl fv)), (mk, .inl (jk, 100, .inl fk)), (ms, .inl (js, 100, .inl gs)), (ml, .inl (jl, 100, .inl gl)), (mc, .inl (jc, 10201, .inl gc)), (mf, .inl (jf, 100, .inl gf)), (mn, .inl (jn, 100, .inl gn))] sz)) 0 0 (va_A [(mo, .inr (4, [.int (th), .ref mv, .ref mk, .int (nI nv), .int (nI nk), .int (nI sn), .ref ms, .ref ml, .ref mc, .int (nI ct), .ref mf, .ref mn])), (mv, .inl (jv, 100, .inl fv)), (mk, .inl (jk, 100, .inl fk)), (ms, .inl (js, 100, .inl gs)), (ml, .inl (jl, 100, .inl gl)), (mc, .inl (jc, 10201, .inl gc)), (mf, .inl (jf, 100, .inl gf)), (mn, .inl (jn, 100, .inl gn))] sz) := by
  refine Met.ofW (cc := cX4_size) (maxL := 2) (ret := (some (.int))) (by decide) rfl ?_
  intro p e s m args below meth c s₁ B hml hv
  obtain ⟨hargs, hsz, hN, hP, hK, hD0⟩ := hv
  have hx := B.exec
  have hb := B.bytes
  have hr := B.returns
  have hw : ∀ w ∈ wsA, w.before args s = true := fun w h => atoms_spec (ws := (.code yX4_size cX4_size 2 (some (.int)) :: wsA)) B.pre w (List.mem_cons_of_mem _ h)
  have hown : s.vm.findClass "GlobDeskModel" = some m.cls := findClass_of_methodNamed B.named
  have hlocks := B.notSynchronized
  subst hsz
  have hD := hD0.self (sz := s.heap.size)
  generalize hAe : va_A [(mo, .inr (4, [.int (th), .ref mv, .ref mk, .int (nI nv), .int (nI nk), .int (nI sn), .ref ms, .ref ml, .ref mc, .int (nI ct), .ref mf, .ref mn])), (mv, .inl (jv, 100, .inl fv)), (mk, .inl (jk, 100, .inl fk)), (ms, .inl (js, 100, .inl gs)), (ml, .inl (jl, 100, .inl gl)), (mc, .inl (jc, 10201, .inl gc)), (mf, .inl (jf, 100, .inl gf)), (mn, .inl (jn, 100, .inl gn))] s.heap.size = A at hD ⊢
  have hA : ∀ q : Nat, s.heap.size ≤ q → A q := fun q h => by rw [← hAe]; exact Or.inr h
  have hS : va_S A s.heap s.heap [] := va_S.rf
  generalize hQ : MQ below _ args s _ _ _ = Q
  change W p l e rm_m_size s m args below meth c s.heap [] 0 0 Q (entryFrame m args 2)
  have hl := lv_entry ([.ref mo, .int (w)]) (n := 2) (Nat.le_of_ble_eq_true rfl)
  rw [show entryFrame m args 2 = entryFrame m ([.ref mo, .int (w)] : List Value).toArray 2 from by rw [hargs], lg_entry_eq]
  generalize (lg_sl ([.ref mo, .int (w)]) ++ List.replicate (2 - (lg_sl ([.ref mo, .int (w)])).length) Slot.unset).toArray = ls at hl ⊢
  have hl : lv_has ls 2 [(0, .ref mo), (1, .int (w))] := hl
  refine lv_aload_n hx hb dX4_size_0 rfl (lv_at hl 0 rfl) ?_
  refine lv_iconst (v := 0) hx hb dX4_size_1 (by decide) ?_
  refine lv_topi (fun x1 ex1 => ?_)
  obtain rfl : x1 = nI 0 := by rw [ex1]; exact nI_0.symm
  refine va_put (D := (dC, dI)) (ci := 4) (v := .int (nI 0)) (ty := .int) (C := RX4) (T := TX4) (N := 12) hx hb hw inX4 tyX4 tyX4_ok nmX4 hown hK hP hD hS 0 rfl rfl 0 (by decide) (hw _ mw244) (fun _ h9 => h9) rfl (by decide +kernel) rfl rfl (Nat.le_of_ble_eq_true rfl) dX4_size_2 (fun H locs hP hD hS => ?_)
  have hP : va_P (dC, dI) cl5 [(mo, .inr (4, [.int (nI 0), .ref mv, .ref mk, .int (nI nv), .int (nI nk), .int (nI sn), .ref ms, .ref ml, .ref mc, .int (nI ct), .ref mf, .ref mn])), (mv, .inl (jv, 100, .inl fv)), (mk, .inl (jk, 100, .inl fk)), (ms, .inl (js, 100, .inl gs)), (ml, .inl (jl, 100, .inl gl)), (mc, .inl (jc, 10201, .inl gc)), (mf, .inl (jf, 100, .inl gf)), (mn, .inl (jn, 100, .inl gn))] H := hP
  have hD : va_D A [(mo, .inr (4, [.int (nI 0), .ref mv, .ref mk, .int (nI nv), .int (nI nk), .int (nI sn), .ref ms, .ref ml, .ref mc, .int (nI ct), .ref mf, .ref mn])), (mv, .inl (jv, 100, .inl fv)), (mk, .inl (jk, 100, .inl fk)), (ms, .inl (js, 100, .inl gs)), (ml, .inl (jl, 100, .inl gl)), (mc, .inl (jc, 10201, .inl gc)), (mf, .inl (jf, 100, .inl gf)), (mn, .inl (jn, 100, .inl gn))] := hD
  refine lv_iload_n hx hb dX4_size_5 rfl (lv_at hl 1 rfl) ?_
  refine lv_if_ne (tgt := 16) hx hb dX4_size_6 (by decide) (fun c6_1 => ?_) (fun c6_1 => ?_)
  · skip
    have w0 := c6_1
    refine lv_iload_n hx hb dX4_size_16 rfl (lv_at hl 1 rfl) ?_
    refine lv_iconst (v := 1) hx hb dX4_size_17 (by decide) ?_
    refine lv_icmp_ne (tgt := 28) hx hb dX4_size_18 (by decide) (fun c18_2 => ?_) (fun c18_2 => ?_)
    · skip
      have w1 := c18_2
      refine lv_iconst (v := -1) hx hb dX4_size_28 (by decide) ?_
      subst hQ
      exact W.iret (v := (-1)) hx hb hr (fun t ht hW => ⟨⟨_, (), rfl, by first | (rw [if_pos w0]; done) | (rw [if_neg w0, if_pos w1]; done) | (rw [if_neg w0, if_neg w1]; done), by rw [ht]; exact hP, hD⟩, hS.F ht⟩) hS.2.2 dX4_size_29
    · skip
      have w1 := (by first | exact c18_2 | exact Decidable.not_not.mp c18_2)
      refine lv_aload_n hx hb dX4_size_21 rfl (lv_at hl 0 rfl) ?_
      refine va_get (D := (dC, dI)) (ci := 4) (v := .int (nI nk)) (C := RX4) (T := TX4) (N := 12) hx hb hw inX4 hown hK hP 0 rfl rfl 4 (by decide) (hw _ mw248) (fun _ h9 => h9) rfl dX4_size_22 ?_
      refine lv_goto (tgt := 29) hx hb dX4_size_25 (by decide) ?_
      subst hQ
      exact W.iret (v := (nI nk)) hx hb hr (fun t ht hW => ⟨⟨_, (), rfl, by first | (rw [if_pos w0]; done) | (rw [if_neg w0, if_pos w1]; done) | (rw [if_neg w0, if_neg w1]; done), by rw [ht]; exact hP, hD⟩, hS.F ht⟩) hS.2.2 dX4_size_29
  · skip
    have w0 := (by first | exact c6_1 | exact Decidable.not_not.mp c6_1)
    refine lv_aload_n hx hb dX4_size_9 rfl (lv_at hl 0 rfl) ?_
    refine va_get (D := (dC, dI)) (ci := 4) (v := .int (nI nv)) (C := RX4) (T := TX4) (N := 12) hx hb hw inX4 hown hK hP 0 rfl rfl 3 (by decide) (hw _ mw247) (fun _ h9 => h9) rfl dX4_size_10 ?_
    refine lv_goto (tgt := 29) hx hb dX4_size_13 (by decide) ?_
    subst hQ
    exact W.iret (v := (nI nv)) hx hb hr (fun t ht hW => ⟨⟨_, (), rfl, by first | (rw [if_pos w0]; done) | (rw [if_neg w0, if_pos w1]; done) | (rw [if_neg w0, if_neg w1]; done), by rw [ht]; exact hP, hD⟩, hS.F ht⟩) hS.2.2 dX4_size_29

abbrev rm_m_clear : Room := { frames := 0, cells := 0, slots := 0, locals := 0 }
set_option maxHeartbeats 4000000 in
set_option maxRecDepth 100000 in
theorem m_clear (l : Launch) (dC : Nat → ClassId) (dI : Nat → Nat → Nat) (sz : Nat) (mo mv mk ms ml mc mf mn : Nat) (jv jk js jl jc jf jn : ClassId) (fv fk gs gl gc gf gn : Nat → Int32) (nv nk sn ct : Nat) (th : Int32) (hv : nv ≤ 100) (hk : nk ≤ 100) (w : Int32) : Met l yX4_clear (.code yX4_clear cX4_clear 3 (some (.int)) :: wsA) rm_m_clear (va_Pc [.ref mo, .int (w)] (wr (dC, dI) [(mo, .inr (4, [.int (th), .ref mv, .ref mk, .int (nI nv), .int (nI nk), .int (nI sn), .ref ms, .ref ml, .ref mc, .int (nI ct), .ref mf, .ref mn])), (mv, .inl (jv, 100, .inl fv)), (mk, .inl (jk, 100, .inl fk)), (ms, .inl (js, 100, .inl gs)), (ml, .inl (jl, 100, .inl gl)), (mc, .inl (jc, 10201, .inl gc)), (mf, .inl (jf, 100, .inl gf)), (mn, .inl (jn, 100, .inl gn))] [(jv, .int), (jk, .int), (js, .int), (jl, .int), (jc, .boolean), (jf, .int), (jn, .int)] sz)) (va_Qi (fun (r : Int32) (u : Nat × Nat) => r = (if w = 0 then nI nv else if w = 1 then nI nk else -1) ∧ u = (if w = 0 then (0, nk) else if w = 1 then (nv, 0) else (nv, nk))) (wB (dC, dI) (va_A [(mo, .inr (4, [.int (th), .ref mv, .ref mk, .int (nI nv), .int (nI nk), .int (nI sn), .ref ms, .ref ml, .ref mc, .int (nI ct), .ref mf, .ref mn])), (mv, .inl (jv, 100, .inl fv)), (mk, .inl (jk, 100, .inl fk)), (ms, .inl (js, 100, .inl gs)), (ml, .inl (jl, 100, .inl gl)), (mc, .inl (jc, 10201, .inl gc)), (mf, .inl (jf, 100, .inl gf)), (mn, .inl (jn, 100, .inl gn))] sz) (fun u : Nat × Nat => [(mo, .inr (4, [.int (nI 0), .ref mv, .ref mk, .int (nI u.1), .int (nI u.2), .int (nI sn), .ref ms, .ref ml, .ref mc, .int (nI ct), .ref mf, .ref mn])), (mv, .inl (jv, 100, .inl fv)), (mk, .inl (jk, 100, .inl fk)), (ms, .inl (js, 100, .inl gs)), (ml, .inl (jl, 100, .inl gl)), (mc, .inl (jc, 10201, .inl gc)), (mf, .inl (jf, 100, .inl gf)), (mn, .inl (jn, 100, .inl gn))])) (va_A [(mo, .inr (4, [.int (th), .ref mv, .ref mk, .int (nI nv), .int (nI nk), .int (nI sn), .ref ms, .ref ml, .ref mc, .int (nI ct), .ref mf, .ref mn])), (mv, .inl (jv, 100, .inl fv)), (mk, .inl (jk, 100, .inl fk)), (ms, .inl (js, 100, .inl gs)), (ml, .inl (jl, 100, .inl gl)), (mc, .inl (jc, 10201, .inl gc)), (mf, .inl (jf, 100, .inl gf)), (mn, .inl (jn, 100, .inl gn))] sz)) 0 0 (va_A [(mo, .inr (4, [.int (th), .ref mv, .ref mk, .int (nI nv), .int (nI nk), .int (nI sn), .ref ms, .ref ml, .ref mc, .int (nI ct), .ref mf, .ref mn])), (mv, .inl (jv, 100, .inl fv)), (mk, .inl (jk, 100, .inl fk)), (ms, .inl (js, 100, .inl gs)), (ml, .inl (jl, 100, .inl gl)), (mc, .inl (jc, 10201, .inl gc)), (mf, .inl (jf, 100, .inl gf)), (mn, .inl (jn, 100, .inl gn))] sz) := by
  refine Met.ofW (cc := cX4_clear) (maxL := 3) (ret := (some (.int))) (by decide) rfl ?_
  intro p e s m args below meth c s₁ B hml hv
  obtain ⟨hargs, hsz, hN, hP, hK, hD0⟩ := hv
  have hx := B.exec
  have hb := B.bytes
  have hr := B.returns
  have hw : ∀ w ∈ wsA, w.before args s = true := fun w h => atoms_spec (ws := (.code yX4_clear cX4_clear 3 (some (.int)) :: wsA)) B.pre w (List.mem_cons_of_mem _ h)
  have hown : s.vm.findClass "GlobDeskModel" = some m.cls := findClass_of_methodNamed B.named
  have hlocks := B.notSynchronized
  subst hsz
  have hD := hD0.self (sz := s.heap.size)
  generalize hAe : va_A [(mo, .inr (4, [.int (th), .ref mv, .ref mk, .int (nI nv), .int (nI nk), .int (nI sn), .ref ms, .ref ml, .ref mc, .int (nI ct), .ref mf, .ref mn])), (mv, .inl (jv, 100, .inl fv)), (mk, .inl (jk, 100, .inl fk)), (ms, .inl (js, 100, .inl gs)), (ml, .inl (jl, 100, .inl gl)), (mc, .inl (jc, 10201, .inl gc)), (mf, .inl (jf, 100, .inl gf)), (mn, .inl (jn, 100, .inl gn))] s.heap.size = A at hD ⊢
  have hA : ∀ q : Nat, s.heap.size ≤ q → A q := fun q h => by rw [← hAe]; exact Or.inr h
  have hS : va_S A s.heap s.heap [] := va_S.rf
  generalize hQ : MQ below _ args s _ _ _ = Q
  change W p l e rm_m_clear s m args below meth c s.heap [] 0 0 Q (entryFrame m args 3)
  have hl := lv_entry ([.ref mo, .int (w)]) (n := 3) (Nat.le_of_ble_eq_true rfl)
  rw [show entryFrame m args 3 = entryFrame m ([.ref mo, .int (w)] : List Value).toArray 3 from by rw [hargs], lg_entry_eq]
  generalize (lg_sl ([.ref mo, .int (w)]) ++ List.replicate (3 - (lg_sl ([.ref mo, .int (w)])).length) Slot.unset).toArray = ls at hl ⊢
  have hl : lv_has ls 3 [(0, .ref mo), (1, .int (w))] := hl
  refine lv_aload_n hx hb dX4_clear_0 rfl (lv_at hl 0 rfl) ?_
  refine lv_iconst (v := 0) hx hb dX4_clear_1 (by decide) ?_
  refine lv_topi (fun x1 ex1 => ?_)
  obtain rfl : x1 = nI 0 := by rw [ex1]; exact nI_0.symm
  refine va_put (D := (dC, dI)) (ci := 4) (v := .int (nI 0)) (ty := .int) (C := RX4) (T := TX4) (N := 12) hx hb hw inX4 tyX4 tyX4_ok nmX4 hown hK hP hD hS 0 rfl rfl 0 (by decide) (hw _ mw244) (fun _ h9 => h9) rfl (by decide +kernel) rfl rfl (Nat.le_of_ble_eq_true rfl) dX4_clear_2 (fun H locs hP hD hS => ?_)
  have hP : va_P (dC, dI) cl5 [(mo, .inr (4, [.int (nI 0), .ref mv, .ref mk, .int (nI nv), .int (nI nk), .int (nI sn), .ref ms, .ref ml, .ref mc, .int (nI ct), .ref mf, .ref mn])), (mv, .inl (jv, 100, .inl fv)), (mk, .inl (jk, 100, .inl fk)), (ms, .inl (js, 100, .inl gs)), (ml, .inl (jl, 100, .inl gl)), (mc, .inl (jc, 10201, .inl gc)), (mf, .inl (jf, 100, .inl gf)), (mn, .inl (jn, 100, .inl gn))] H := hP
  have hD : va_D A [(mo, .inr (4, [.int (nI 0), .ref mv, .ref mk, .int (nI nv), .int (nI nk), .int (nI sn), .ref ms, .ref ml, .ref mc, .int (nI ct), .ref mf, .ref mn])), (mv, .inl (jv, 100, .inl fv)), (mk, .inl (jk, 100, .inl fk)), (ms, .inl (js, 100, .inl gs)), (ml, .inl (jl, 100, .inl gl)), (mc, .inl (jc, 10201, .inl gc)), (mf, .inl (jf, 100, .inl gf)), (mn, .inl (jn, 100, .inl gn))] := hD
  refine lv_iload_n hx hb dX4_clear_5 rfl (lv_at hl 1 rfl) ?_
  refine lv_if_ne (tgt := 16) hx hb dX4_clear_6 (by decide) (fun c6_1 => ?_) (fun c6_1 => ?_)
  · skip
    have w0 : ¬ w = 0 := c6_1
    refine lv_iload_n hx hb dX4_clear_16 rfl (lv_at hl 1 rfl) ?_
    refine lv_iconst (v := 1) hx hb dX4_clear_17 (by decide) ?_
    refine lv_icmp_ne (tgt := 28) hx hb dX4_clear_18 (by decide) (fun c18_2 => ?_) (fun c18_2 => ?_)
    · skip
      have w1 : ¬ w = 1 := c18_2
      refine lv_iconst (v := -1) hx hb dX4_clear_28 (by decide) ?_
      refine lv_istore_n (lv' := [(2, .int (-1)), (0, .ref mo), (1, .int (w))]) hx hb dX4_clear_29 rfl hl (by decide) rfl (fun ls hl => ?_)
      refine lv_iload_n hx hb dX4_clear_30 rfl (lv_at hl 2 rfl) ?_
      refine lv_if_ne (tgt := 39) hx hb dX4_clear_31 (by decide) (fun c31_3 => ?_) (fun c31_3 => ?_)
      · skip
        refine lv_iload_n hx hb dX4_clear_39 rfl (lv_at hl 2 rfl) ?_
        refine lv_iconst (v := 1) hx hb dX4_clear_40 (by decide) ?_
        refine lv_icmp_ne (tgt := 49) hx hb dX4_clear_41 (by decide) (fun c41_4 => ?_) (fun c41_4 => ?_)
        · skip
          refine lv_iload_n hx hb dX4_clear_49 rfl (lv_at hl 0 rfl) ?_
          subst hQ
          exact W.iret (v := (-1)) hx hb hr (fun t ht hW => ⟨⟨_, (nv, nk), rfl, ⟨by rw [if_neg w0, if_neg w1], by rw [if_neg w0, if_neg w1]⟩, by rw [ht]; exact hP, hD⟩, hS.F ht⟩) hS.2.2 dX4_clear_50
        · skip
          exact absurd (by first | exact c41_4 | exact Decidable.not_not.mp c41_4) w1
      · skip
        exact absurd (by first | exact c31_3 | exact Decidable.not_not.mp c31_3) w0
    · skip
      have w1 : w = 1 := (by first | exact c18_2 | exact Decidable.not_not.mp c18_2)
      refine lv_aload_n hx hb dX4_clear_21 rfl (lv_at hl 0 rfl) ?_
      refine va_get (D := (dC, dI)) (ci := 4) (v := .int (nI nk)) (C := RX4) (T := TX4) (N := 12) hx hb hw inX4 hown hK hP 0 rfl rfl 4 (by decide) (hw _ mw248) (fun _ h9 => h9) rfl dX4_clear_22 ?_
      refine lv_goto (tgt := 29) hx hb dX4_clear_25 (by decide) ?_
      refine lv_istore_n (lv' := [(2, .int (nI nk)), (0, .ref mo), (1, .int (w))]) hx hb dX4_clear_29 rfl hl (by decide) rfl (fun ls hl => ?_)
      refine lv_iload_n hx hb dX4_clear_30 rfl (lv_at hl 2 rfl) ?_
      refine lv_if_ne (tgt := 39) hx hb dX4_clear_31 (by decide) (fun c31_5 => ?_) (fun c31_5 => ?_)
      · skip
        refine lv_iload_n hx hb dX4_clear_39 rfl (lv_at hl 2 rfl) ?_
        refine lv_iconst (v := 1) hx hb dX4_clear_40 (by decide) ?_
        refine lv_icmp_ne (tgt := 49) hx hb dX4_clear_41 (by decide) (fun c41_6 => ?_) (fun c41_6 => ?_)
        · skip
          exact absurd w1 c41_6
        · skip
          refine lv_aload_n hx hb dX4_clear_44 rfl (lv_at hl 1 rfl) ?_
          refine lv_iconst (v := 0) hx hb dX4_clear_45 (by decide) ?_
          refine lv_topi (fun x8 ex8 => ?_)
          obtain rfl : x8 = nI 0 := by rw [ex8]; exact nI_0.symm
          refine va_put (D := (dC, dI)) (ci := 4) (v := .int (nI 0)) (ty := .int) (C := RX4) (T := TX4) (N := 12) hx hb hw inX4 tyX4 tyX4_ok nmX4 hown hK hP hD hS 0 rfl rfl 4 (by decide) (hw _ mw248) (fun _ h9 => h9) rfl (by decide +kernel) rfl rfl (Nat.le_of_ble_eq_true rfl) dX4_clear_46 (fun H locs hP hD hS => ?_)
          have hP : va_P (dC, dI) cl5 [(mo, .inr (4, [.int (nI 0), .ref mv, .ref mk, .int (nI nv), .int (nI 0), .int (nI sn), .ref ms, .ref ml, .ref mc, .int (nI ct), .ref mf, .ref mn])), (mv, .inl (jv, 100, .inl fv)), (mk, .inl (jk, 100, .inl fk)), (ms, .inl (js, 100, .inl gs)), (ml, .inl (jl, 100, .inl gl)), (mc, .inl (jc, 10201, .inl gc)), (mf, .inl (jf, 100, .inl gf)), (mn, .inl (jn, 100, .inl gn))] H := hP
          have hD : va_D A [(mo, .inr (4, [.int (nI 0), .ref mv, .ref mk, .int (nI nv), .int (nI 0), .int (nI sn), .ref ms, .ref ml, .ref mc, .int (nI ct), .ref mf, .ref mn])), (mv, .inl (jv, 100, .inl fv)), (mk, .inl (jk, 100, .inl fk)), (ms, .inl (js, 100, .inl gs)), (ml, .inl (jl, 100, .inl gl)), (mc, .inl (jc, 10201, .inl gc)), (mf, .inl (jf, 100, .inl gf)), (mn, .inl (jn, 100, .inl gn))] := hD
          refine lv_iload_n hx hb dX4_clear_49 rfl (lv_at hl 0 rfl) ?_
          subst hQ
          exact W.iret (v := (nI nk)) hx hb hr (fun t ht hW => ⟨⟨_, (nv, 0), rfl, ⟨by rw [if_neg w0, if_pos w1], by rw [if_neg w0, if_pos w1]⟩, by rw [ht]; exact hP, hD⟩, hS.F ht⟩) hS.2.2 dX4_clear_50
      · skip
        exact absurd (by first | exact c31_5 | exact Decidable.not_not.mp c31_5) w0
  · skip
    have w0 : w = 0 := (by first | exact c6_1 | exact Decidable.not_not.mp c6_1)
    refine lv_aload_n hx hb dX4_clear_9 rfl (lv_at hl 0 rfl) ?_
    refine va_get (D := (dC, dI)) (ci := 4) (v := .int (nI nv)) (C := RX4) (T := TX4) (N := 12) hx hb hw inX4 hown hK hP 0 rfl rfl 3 (by decide) (hw _ mw247) (fun _ h9 => h9) rfl dX4_clear_10 ?_
    refine lv_goto (tgt := 29) hx hb dX4_clear_13 (by decide) ?_
    refine lv_istore_n (lv' := [(2, .int (nI nv)), (0, .ref mo), (1, .int (w))]) hx hb dX4_clear_29 rfl hl (by decide) rfl (fun ls hl => ?_)
    refine lv_iload_n hx hb dX4_clear_30 rfl (lv_at hl 2 rfl) ?_
    refine lv_if_ne (tgt := 39) hx hb dX4_clear_31 (by decide) (fun c31_8 => ?_) (fun c31_8 => ?_)
    · skip
      exact absurd w0 c31_8
    · skip
      refine lv_aload_n hx hb dX4_clear_34 rfl (lv_at hl 1 rfl) ?_
      refine lv_iconst (v := 0) hx hb dX4_clear_35 (by decide) ?_
      refine lv_topi (fun x10 ex10 => ?_)
      obtain rfl : x10 = nI 0 := by rw [ex10]; exact nI_0.symm
      refine va_put (D := (dC, dI)) (ci := 4) (v := .int (nI 0)) (ty := .int) (C := RX4) (T := TX4) (N := 12) hx hb hw inX4 tyX4 tyX4_ok nmX4 hown hK hP hD hS 0 rfl rfl 3 (by decide) (hw _ mw247) (fun _ h9 => h9) rfl (by decide +kernel) rfl rfl (Nat.le_of_ble_eq_true rfl) dX4_clear_36 (fun H locs hP hD hS => ?_)
      have hP : va_P (dC, dI) cl5 [(mo, .inr (4, [.int (nI 0), .ref mv, .ref mk, .int (nI 0), .int (nI nk), .int (nI sn), .ref ms, .ref ml, .ref mc, .int (nI ct), .ref mf, .ref mn])), (mv, .inl (jv, 100, .inl fv)), (mk, .inl (jk, 100, .inl fk)), (ms, .inl (js, 100, .inl gs)), (ml, .inl (jl, 100, .inl gl)), (mc, .inl (jc, 10201, .inl gc)), (mf, .inl (jf, 100, .inl gf)), (mn, .inl (jn, 100, .inl gn))] H := hP
      have hD : va_D A [(mo, .inr (4, [.int (nI 0), .ref mv, .ref mk, .int (nI 0), .int (nI nk), .int (nI sn), .ref ms, .ref ml, .ref mc, .int (nI ct), .ref mf, .ref mn])), (mv, .inl (jv, 100, .inl fv)), (mk, .inl (jk, 100, .inl fk)), (ms, .inl (js, 100, .inl gs)), (ml, .inl (jl, 100, .inl gl)), (mc, .inl (jc, 10201, .inl gc)), (mf, .inl (jf, 100, .inl gf)), (mn, .inl (jn, 100, .inl gn))] := hD
      refine lv_iload_n hx hb dX4_clear_39 rfl (lv_at hl 2 rfl) ?_
      refine lv_iconst (v := 1) hx hb dX4_clear_40 (by decide) ?_
      refine lv_icmp_ne (tgt := 49) hx hb dX4_clear_41 (by decide) (fun c41_10 => ?_) (fun c41_10 => ?_)
      · skip
        have w1 : ¬ w = 1 := by rw [w0]; decide
        refine lv_iload_n hx hb dX4_clear_49 rfl (lv_at hl 0 rfl) ?_
        subst hQ
        exact W.iret (v := (nI nv)) hx hb hr (fun t ht hW => ⟨⟨_, (0, nk), rfl, ⟨by rw [if_pos w0], by rw [if_pos w0]⟩, by rw [ht]; exact hP, hD⟩, hS.F ht⟩) hS.2.2 dX4_clear_50
      · skip
        have w1 : ¬ w = 1 := by rw [w0]; decide
        exact absurd (by first | exact c41_10 | exact Decidable.not_not.mp c41_10) w1

abbrev rm_m_put : Room := { frames := 0, cells := 0, slots := 0, locals := 0 }
set_option maxHeartbeats 4000000 in
set_option maxRecDepth 100000 in
theorem m_put (l : Launch) (dC : Nat → ClassId) (dI : Nat → Nat → Nat) (sz : Nat) (mo mv mk ms ml mc mf mn : Nat) (jv jk js jl jc jf jn : ClassId) (fv fk gs gl gc gf gn : Nat → Int32) (nv nk sn ct : Nat) (th : Int32) (hv : nv ≤ 100) (hk : nk ≤ 100) (w : Int32) (v : Int64) (cn : Int32) : Met l yX4_put (.code yX4_put cX4_put 7 (some (.boolean)) :: wsA) rm_m_put (va_Pc [.ref mo, .int (w), .long (v), .int (cn)] (wr (dC, dI) [(mo, .inr (4, [.int (th), .ref mv, .ref mk, .int (nI nv), .int (nI nk), .int (nI sn), .ref ms, .ref ml, .ref mc, .int (nI ct), .ref mf, .ref mn])), (mv, .inl (jv, 100, .inl fv)), (mk, .inl (jk, 100, .inl fk)), (ms, .inl (js, 100, .inl gs)), (ml, .inl (jl, 100, .inl gl)), (mc, .inl (jc, 10201, .inl gc)), (mf, .inl (jf, 100, .inl gf)), (mn, .inl (jn, 100, .inl gn))] [(jv, .int), (jk, .int), (js, .int), (jl, .int), (jc, .boolean), (jf, .int), (jn, .int)] sz)) (va_Qi (fun (r : Int32) (u : ((Nat → Int32) × Nat) × ((Nat → Int32) × Nat)) => r = (if w = 0 then apR nv cn else if w = 1 then apR nk cn else 0) ∧ u = (if w = 0 then (apF fv nv v cn, (fk, nk)) else if w = 1 then ((fv, nv), apF fk nk v cn) else ((fv, nv), (fk, nk)))) (wB (dC, dI) (va_A [(mo, .inr (4, [.int (th), .ref mv, .ref mk, .int (nI nv), .int (nI nk), .int (nI sn), .ref ms, .ref ml, .ref mc, .int (nI ct), .ref mf, .ref mn])), (mv, .inl (jv, 100, .inl fv)), (mk, .inl (jk, 100, .inl fk)), (ms, .inl (js, 100, .inl gs)), (ml, .inl (jl, 100, .inl gl)), (mc, .inl (jc, 10201, .inl gc)), (mf, .inl (jf, 100, .inl gf)), (mn, .inl (jn, 100, .inl gn))] sz) (fun u : ((Nat → Int32) × Nat) × ((Nat → Int32) × Nat) => [(mo, .inr (4, [.int (nI 0), .ref mv, .ref mk, .int (nI u.1.2), .int (nI u.2.2), .int (nI sn), .ref ms, .ref ml, .ref mc, .int (nI ct), .ref mf, .ref mn])), (mv, .inl (jv, 100, .inl (u.1.1))), (mk, .inl (jk, 100, .inl (u.2.1))), (ms, .inl (js, 100, .inl gs)), (ml, .inl (jl, 100, .inl gl)), (mc, .inl (jc, 10201, .inl gc)), (mf, .inl (jf, 100, .inl gf)), (mn, .inl (jn, 100, .inl gn))])) (va_A [(mo, .inr (4, [.int (th), .ref mv, .ref mk, .int (nI nv), .int (nI nk), .int (nI sn), .ref ms, .ref ml, .ref mc, .int (nI ct), .ref mf, .ref mn])), (mv, .inl (jv, 100, .inl fv)), (mk, .inl (jk, 100, .inl fk)), (ms, .inl (js, 100, .inl gs)), (ml, .inl (jl, 100, .inl gl)), (mc, .inl (jc, 10201, .inl gc)), (mf, .inl (jf, 100, .inl gf)), (mn, .inl (jn, 100, .inl gn))] sz)) 0 0 (va_A [(mo, .inr (4, [.int (th), .ref mv, .ref mk, .int (nI nv), .int (nI nk), .int (nI sn), .ref ms, .ref ml, .ref mc, .int (nI ct), .ref mf, .ref mn])), (mv, .inl (jv, 100, .inl fv)), (mk, .inl (jk, 100, .inl fk)), (ms, .inl (js, 100, .inl gs)), (ml, .inl (jl, 100, .inl gl)), (mc, .inl (jc, 10201, .inl gc)), (mf, .inl (jf, 100, .inl gf)), (mn, .inl (jn, 100, .inl gn))] sz) := by
  refine Met.ofW (cc := cX4_put) (maxL := 7) (ret := (some (.boolean))) (by decide) rfl ?_
  intro p e s m args below meth c s₁ B hml hv
  obtain ⟨hargs, hsz, hN, hP, hK, hD0⟩ := hv
  have hx := B.exec
  have hb := B.bytes
  have hr := B.returns
  have hw : ∀ w ∈ wsA, w.before args s = true := fun w h => atoms_spec (ws := (.code yX4_put cX4_put 7 (some (.boolean)) :: wsA)) B.pre w (List.mem_cons_of_mem _ h)
  have hown : s.vm.findClass "GlobDeskModel" = some m.cls := findClass_of_methodNamed B.named
  have hlocks := B.notSynchronized
  subst hsz
  have hD := hD0.self (sz := s.heap.size)
  generalize hAe : va_A [(mo, .inr (4, [.int (th), .ref mv, .ref mk, .int (nI nv), .int (nI nk), .int (nI sn), .ref ms, .ref ml, .ref mc, .int (nI ct), .ref mf, .ref mn])), (mv, .inl (jv, 100, .inl fv)), (mk, .inl (jk, 100, .inl fk)), (ms, .inl (js, 100, .inl gs)), (ml, .inl (jl, 100, .inl gl)), (mc, .inl (jc, 10201, .inl gc)), (mf, .inl (jf, 100, .inl gf)), (mn, .inl (jn, 100, .inl gn))] s.heap.size = A at hD ⊢
  have hA : ∀ q : Nat, s.heap.size ≤ q → A q := fun q h => by rw [← hAe]; exact Or.inr h
  have hS : va_S A s.heap s.heap [] := va_S.rf
  generalize hQ : MQ below _ args s _ _ _ = Q
  change W p l e rm_m_put s m args below meth c s.heap [] 0 0 Q (entryFrame m args 7)
  have hl := lv_entry ([.ref mo, .int (w), .long (v), .int (cn)]) (n := 7) (Nat.le_of_ble_eq_true rfl)
  rw [show entryFrame m args 7 = entryFrame m ([.ref mo, .int (w), .long (v), .int (cn)] : List Value).toArray 7 from by rw [hargs], lg_entry_eq]
  generalize (lg_sl ([.ref mo, .int (w), .long (v), .int (cn)]) ++ List.replicate (7 - (lg_sl ([.ref mo, .int (w), .long (v), .int (cn)])).length) Slot.unset).toArray = ls at hl ⊢
  have hl : lv_has ls 7 [(0, .ref mo), (1, .int (w)), (2, .long (v)), (4, .int (cn))] := hl
  refine lv_aload_n hx hb dX4_put_0 rfl (lv_at hl 0 rfl) ?_
  refine lv_iconst (v := 0) hx hb dX4_put_1 (by decide) ?_
  refine lv_topi (fun x1 ex1 => ?_)
  obtain rfl : x1 = nI 0 := by rw [ex1]; exact nI_0.symm
  refine va_put (D := (dC, dI)) (ci := 4) (v := .int (nI 0)) (ty := .int) (C := RX4) (T := TX4) (N := 12) hx hb hw inX4 tyX4 tyX4_ok nmX4 hown hK hP hD hS 0 rfl rfl 0 (by decide) (hw _ mw244) (fun _ h9 => h9) rfl (by decide +kernel) rfl rfl (Nat.le_of_ble_eq_true rfl) dX4_put_2 (fun H locs hP hD hS => ?_)
  have hP : va_P (dC, dI) cl5 [(mo, .inr (4, [.int (nI 0), .ref mv, .ref mk, .int (nI nv), .int (nI nk), .int (nI sn), .ref ms, .ref ml, .ref mc, .int (nI ct), .ref mf, .ref mn])), (mv, .inl (jv, 100, .inl fv)), (mk, .inl (jk, 100, .inl fk)), (ms, .inl (js, 100, .inl gs)), (ml, .inl (jl, 100, .inl gl)), (mc, .inl (jc, 10201, .inl gc)), (mf, .inl (jf, 100, .inl gf)), (mn, .inl (jn, 100, .inl gn))] H := hP
  have hD : va_D A [(mo, .inr (4, [.int (nI 0), .ref mv, .ref mk, .int (nI nv), .int (nI nk), .int (nI sn), .ref ms, .ref ml, .ref mc, .int (nI ct), .ref mf, .ref mn])), (mv, .inl (jv, 100, .inl fv)), (mk, .inl (jk, 100, .inl fk)), (ms, .inl (js, 100, .inl gs)), (ml, .inl (jl, 100, .inl gl)), (mc, .inl (jc, 10201, .inl gc)), (mf, .inl (jf, 100, .inl gf)), (mn, .inl (jn, 100, .inl gn))] := hD
  refine lv_iload_n hx hb dX4_put_5 rfl (lv_at hl 1 rfl) ?_
  refine lv_if_lt (tgt := 50) hx hb dX4_put_6 (by decide) (fun c6_1 => ?_) (fun c6_1 => ?_)
  · skip
    rw [ti_lt, tc_0] at c6_1
    refine lv_iconst (v := 0) hx hb dX4_put_50 (by decide) ?_
    subst hQ
    exact W.zret (v := 0) hx hb hr (by decide) (fun t ht hW => ⟨⟨_, ((fv, nv), (fk, nk)), rfl, putM_no (fun q => by have q := congrArg Int32.toInt q; rw [tc_0] at q; omega) (fun q => by have q := congrArg Int32.toInt q; rw [tc_1] at q; omega), by rw [ht]; exact hP, hD⟩, hS.F ht⟩) hS.2.2 dX4_put_51
  · skip
    rw [ti_lt, tc_0] at c6_1
    refine lv_iload_n hx hb dX4_put_9 rfl (lv_at hl 1 rfl) ?_
    refine lv_iconst (v := 1) hx hb dX4_put_10 (by decide) ?_
    refine lv_icmp_gt (tgt := 50) hx hb dX4_put_11 (by decide) (fun c11_2 => ?_) (fun c11_2 => ?_)
    · skip
      rw [ti_lt, tc_1] at c11_2
      refine lv_iconst (v := 0) hx hb dX4_put_50 (by decide) ?_
      subst hQ
      exact W.zret (v := 0) hx hb hr (by decide) (fun t ht hW => ⟨⟨_, ((fv, nv), (fk, nk)), rfl, putM_no (fun q => by have q := congrArg Int32.toInt q; rw [tc_0] at q; omega) (fun q => by have q := congrArg Int32.toInt q; rw [tc_1] at q; omega), by rw [ht]; exact hP, hD⟩, hS.F ht⟩) hS.2.2 dX4_put_51
    · skip
      rw [ti_lt, tc_1] at c11_2
      refine lv_iload hx hb dX4_put_14 (lv_at hl 3 rfl) ?_
      refine lv_iconst (v := 1) hx hb dX4_put_16 (by decide) ?_
      refine lv_icmp_lt (tgt := 50) hx hb dX4_put_17 (by decide) (fun c17_3 => ?_) (fun c17_3 => ?_)
      · skip
        rw [ti_lt, tc_1] at c17_3
        refine lv_iconst (v := 0) hx hb dX4_put_50 (by decide) ?_
        subst hQ
        exact W.zret (v := 0) hx hb hr (by decide) (fun t ht hW => ⟨⟨_, ((fv, nv), (fk, nk)), rfl, putM_no (fun q => by have q := congrArg Int32.toInt q; rw [tc_0] at q; omega) (fun q => by have q := congrArg Int32.toInt q; rw [tc_1] at q; omega), by rw [ht]; exact hP, hD⟩, hS.F ht⟩) hS.2.2 dX4_put_51
      · skip
        rw [ti_lt, tc_1] at c17_3
        refine lv_iload hx hb dX4_put_20 (lv_at hl 3 rfl) ?_
        refine lv_bipush (v := 8) hx hb dX4_put_22 (by decide) ?_
        refine lv_icmp_gt (tgt := 50) hx hb dX4_put_24 (by decide) (fun c24_4 => ?_) (fun c24_4 => ?_)
        · skip
          rw [ti_lt, tc_8] at c24_4
          refine lv_iconst (v := 0) hx hb dX4_put_50 (by decide) ?_
          subst hQ
          exact W.zret (v := 0) hx hb hr (by decide) (fun t ht hW => ⟨⟨_, ((fv, nv), (fk, nk)), rfl, putM_no (fun q => by have q := congrArg Int32.toInt q; rw [tc_0] at q; omega) (fun q => by have q := congrArg Int32.toInt q; rw [tc_1] at q; omega), by rw [ht]; exact hP, hD⟩, hS.F ht⟩) hS.2.2 dX4_put_51
        · skip
          rw [ti_lt, tc_8] at c24_4
          refine lv_iload_n hx hb dX4_put_27 rfl (lv_at hl 1 rfl) ?_
          refine lv_if_ne (tgt := 38) hx hb dX4_put_28 (by decide) (fun c28_5 => ?_) (fun c28_5 => ?_)
          · skip
            have w0 : ¬ w = 0 := c28_5
            have wz : w.toInt = 1 := by rw [one32 (by omega) (by omega) w0]; decide
            refine lv_aload_n hx hb dX4_put_38 rfl (lv_at hl 0 rfl) ?_
            refine va_get (D := (dC, dI)) (ci := 4) (v := .int (nI nk)) (C := RX4) (T := TX4) (N := 12) hx hb hw inX4 hown hK hP 0 rfl rfl 4 (by decide) (hw _ mw248) (fun _ h9 => h9) rfl dX4_put_39 ?_
            refine lv_iload hx hb dX4_put_42 (lv_at hl 3 rfl) ?_
            refine lv_iadd hx hb dX4_put_44 ?_
            refine lv_bipush (v := 100) hx hb dX4_put_45 (by decide) ?_
            refine lv_icmp_le (tgt := 52) hx hb dX4_put_47 (by decide) (fun c47_6 => ?_) (fun c47_6 => ?_)
            · skip
              rw [ti_le, tc_100, addI hk (by omega) (by omega)] at c47_6
              have q0 : 1 ≤ cn.toInt ∧ cn.toInt ≤ 8 ∧ cn.toInt + nk ≤ 100 := by omega
              refine lv_iload hx hb dX4_put_52 (lv_at hl 3 rfl) ?_
              refine lv_iconst (v := 1) hx hb dX4_put_54 (by decide) ?_
              refine lv_isub hx hb dX4_put_55 ?_
              refine lv_topi (fun x8 ex8 => ?_)
              obtain rfl : x8 = (nI cn.toInt.toNat) - (1) := by rw [ex8]; exact congrArg (fun z : Int32 => z - 1) (Int32.toInt_inj.mp (by rw [nI_toInt (by omega)]; omega))
              refine lv_istore (lv' := [(5, .int ((nI cn.toInt.toNat) - (1))), (0, .ref mo), (1, .int (w)), (2, .long (v)), (4, .int (cn))]) hx hb dX4_put_56 hl (by decide) rfl (fun ls hl => ?_)
              have loop58 : ∀ (nn58 : Nat) (i n1 : Nat) (f1 : Nat → Int32) (hi9 : n1 + i = nk + cn.toInt.toNat) (hn1 : nk ≤ n1) (e9 : apA v i f1 n1 = apA v cn.toInt.toNat fk nk) (_ : i < nn58) (H : Heap) (locs : List Loc) (_ : va_P (dC, dI) cl5 [(mo, .inr (4, [.int (nI 0), .ref mv, .ref mk, .int (nI nv), .int (nI n1), .int (nI sn), .ref ms, .ref ml, .ref mc, .int (nI ct), .ref mf, .ref mn])), (mv, .inl (jv, 100, .inl fv)), (mk, .inl (jk, 100, .inl f1)), (ms, .inl (js, 100, .inl gs)), (ml, .inl (jl, 100, .inl gl)), (mc, .inl (jc, 10201, .inl gc)), (mf, .inl (jf, 100, .inl gf)), (mn, .inl (jn, 100, .inl gn))] H) (_ : va_D A [(mo, .inr (4, [.int (nI 0), .ref mv, .ref mk, .int (nI nv), .int (nI n1), .int (nI sn), .ref ms, .ref ml, .ref mc, .int (nI ct), .ref mf, .ref mn])), (mv, .inl (jv, 100, .inl fv)), (mk, .inl (jk, 100, .inl f1)), (ms, .inl (js, 100, .inl gs)), (ml, .inl (jl, 100, .inl gl)), (mc, .inl (jc, 10201, .inl gc)), (mf, .inl (jf, 100, .inl gf)), (mn, .inl (jn, 100, .inl gn))]) (_ : va_S A s.heap H locs) (ls : Array Slot) (_ : lv_has ls 7 [(0, .ref mo), (1, .int (w)), (2, .long (v)), (5, .int ((nI i) - (1)))]), W p l e rm_m_put s m args below meth c H locs 0 0 Q (F0 m 58 ls []) := by
                intro nn58
                induction nn58 with
                | zero => intro i n1 f1 hi9 hn1 e9 hm58 H locs hP hD hS ls hl; exact absurd hm58 (Nat.not_lt_zero _)
                | succ nn58 ih58 =>
                  intro i n1 f1 hi9 hn1 e9 hm58 H locs hP hD hS ls hl
                  refine lv_iload hx hb dX4_put_58 (lv_at hl 3 rfl) ?_
                  refine lv_if_lt (tgt := 132) hx hb dX4_put_60 (by decide) (fun c60_8 => ?_) (fun c60_8 => ?_)
                  · skip
                    have e8 := nI_m1n (by omega) c60_8
                    refine lv_iconst (v := 1) hx hb dX4_put_132 (by decide) ?_
                    subst hQ
                    exact W.zret (v := 1) hx hb hr (by decide) (fun t ht hW => ⟨⟨_, ((fv, nv), (f1, n1)), rfl, ⟨by rw [if_neg w0, if_pos (one32 (by omega) (by omega) w0), apR_ok q0], by rw [if_neg w0, if_pos (one32 (by omega) (by omega) w0), apF_ok q0, ← e9, e8, show n1 = nk + cn.toInt.toNat from by omega]; rfl⟩, by rw [ht]; exact hP, hD⟩, hS.F ht⟩) hS.2.2 dX4_put_133
                  · skip
                    obtain ⟨j, rfl⟩ := nI_m1_pos c60_8
                    rw [nI_pred] at hl
                    refine lv_lload_n hx hb dX4_put_63 rfl (lv_at hl 2 rfl) ?_
                    refine lv_bipush (v := 8) hx hb dX4_put_64 (by decide) ?_
                    refine lv_iload hx hb dX4_put_66 (lv_at hl 3 rfl) ?_
                    refine lv_imul hx hb dX4_put_68 ?_
                    refine lv_lushr hx hb dX4_put_69 rfl ?_
                    refine lv_l2i hx hb dX4_put_70 rfl ?_
                    refine lv_sipush (v := 255) hx hb dX4_put_71 (by decide) ?_
                    refine lv_iand hx hb dX4_put_74 ?_
                    refine lv_topi (fun x10 ex10 => ?_)
                    obtain rfl : x10 = btv v j := by rw [ex10]; rfl
                    refine lv_istore (lv' := [(6, .int (btv v j)), (0, .ref mo), (1, .int (w)), (2, .long (v)), (5, .int (nI j))]) hx hb dX4_put_75 hl (by decide) rfl (fun ls hl => ?_)
                    refine lv_iload_n hx hb dX4_put_77 rfl (lv_at hl 2 rfl) ?_
                    refine lv_if_ne (tgt := 105) hx hb dX4_put_78 (by decide) (fun c78_10 => ?_) (fun c78_10 => ?_)
                    · skip
                      refine lv_aload_n hx hb dX4_put_105 rfl (lv_at hl 1 rfl) ?_
                      refine va_get (D := (dC, dI)) (ci := 4) (v := .ref mk) (C := RX4) (T := TX4) (N := 12) hx hb hw inX4 hown hK hP 0 rfl rfl 2 (by decide) (hw _ mw246) (fun _ h9 => h9) rfl dX4_put_106 ?_
                      refine lv_aload_n hx hb dX4_put_109 rfl (lv_at hl 1 rfl) ?_
                      refine va_get (D := (dC, dI)) (ci := 4) (v := .int (nI n1)) (C := RX4) (T := TX4) (N := 12) hx hb hw inX4 hown hK hP 0 rfl rfl 4 (by decide) (hw _ mw248) (fun _ h9 => h9) rfl dX4_put_110 ?_
                      refine lv_iload hx hb dX4_put_113 (lv_at hl 0 rfl) ?_
                      refine va_iast hx hb hK hP hD hS 2 1 rfl rfl (i := (nI n1)) (vp_in_nI (by omega) (by omega)) dX4_put_115 (fun H locs hP hD hS => ?_)
                      rw [nI_clamp (by omega)] at hP hD
                      have hP : va_P (dC, dI) cl5 [(mo, .inr (4, [.int (nI 0), .ref mv, .ref mk, .int (nI nv), .int (nI n1), .int (nI sn), .ref ms, .ref ml, .ref mc, .int (nI ct), .ref mf, .ref mn])), (mv, .inl (jv, 100, .inl fv)), (mk, .inl (jk, 100, .inl (upd f1 n1 (btv v j)))), (ms, .inl (js, 100, .inl gs)), (ml, .inl (jl, 100, .inl gl)), (mc, .inl (jc, 10201, .inl gc)), (mf, .inl (jf, 100, .inl gf)), (mn, .inl (jn, 100, .inl gn))] H := hP
                      have hD : va_D A [(mo, .inr (4, [.int (nI 0), .ref mv, .ref mk, .int (nI nv), .int (nI n1), .int (nI sn), .ref ms, .ref ml, .ref mc, .int (nI ct), .ref mf, .ref mn])), (mv, .inl (jv, 100, .inl fv)), (mk, .inl (jk, 100, .inl (upd f1 n1 (btv v j)))), (ms, .inl (js, 100, .inl gs)), (ml, .inl (jl, 100, .inl gl)), (mc, .inl (jc, 10201, .inl gc)), (mf, .inl (jf, 100, .inl gf)), (mn, .inl (jn, 100, .inl gn))] := hD
                      refine lv_aload_n hx hb dX4_put_116 rfl (lv_at hl 1 rfl) ?_
                      refine lv_dup hx hb dX4_put_117 rfl ?_
                      refine va_get (D := (dC, dI)) (ci := 4) (v := .int (nI n1)) (C := RX4) (T := TX4) (N := 12) hx hb hw inX4 hown hK hP 0 rfl rfl 4 (by decide) (hw _ mw248) (fun _ h9 => h9) rfl dX4_put_118 ?_
                      refine lv_iconst (v := 1) hx hb dX4_put_121 (by decide) ?_
                      refine lv_iadd hx hb dX4_put_122 ?_
                      refine lv_topi (fun x12 ex12 => ?_)
                      obtain rfl : x12 = nI (n1 + 1) := by rw [ex12]; exact nI_add (n1) 1
                      refine va_put (D := (dC, dI)) (ci := 4) (v := .int (nI (n1 + 1))) (ty := .int) (C := RX4) (T := TX4) (N := 12) hx hb hw inX4 tyX4 tyX4_ok nmX4 hown hK hP hD hS 0 rfl rfl 4 (by decide) (hw _ mw248) (fun _ h9 => h9) rfl (by decide +kernel) rfl rfl (Nat.le_of_ble_eq_true rfl) dX4_put_123 (fun H locs hP hD hS => ?_)
                      have hP : va_P (dC, dI) cl5 [(mo, .inr (4, [.int (nI 0), .ref mv, .ref mk, .int (nI nv), .int (nI (n1 + 1)), .int (nI sn), .ref ms, .ref ml, .ref mc, .int (nI ct), .ref mf, .ref mn])), (mv, .inl (jv, 100, .inl fv)), (mk, .inl (jk, 100, .inl (upd f1 n1 (btv v j)))), (ms, .inl (js, 100, .inl gs)), (ml, .inl (jl, 100, .inl gl)), (mc, .inl (jc, 10201, .inl gc)), (mf, .inl (jf, 100, .inl gf)), (mn, .inl (jn, 100, .inl gn))] H := hP
                      have hD : va_D A [(mo, .inr (4, [.int (nI 0), .ref mv, .ref mk, .int (nI nv), .int (nI (n1 + 1)), .int (nI sn), .ref ms, .ref ml, .ref mc, .int (nI ct), .ref mf, .ref mn])), (mv, .inl (jv, 100, .inl fv)), (mk, .inl (jk, 100, .inl (upd f1 n1 (btv v j)))), (ms, .inl (js, 100, .inl gs)), (ml, .inl (jl, 100, .inl gl)), (mc, .inl (jc, 10201, .inl gc)), (mf, .inl (jf, 100, .inl gf)), (mn, .inl (jn, 100, .inl gn))] := hD
                      refine lv_iinc (v := (nI j) - (1)) (lv' := [(5, .int ((nI j) - (1))), (6, .int (btv v j)), (0, .ref mo), (1, .int (w)), (2, .long (v))]) hx hb dX4_put_126 hl (k := 4) rfl (nI_dec j) (by decide) rfl (fun ls hl => ?_)
                      refine lv_goto (tgt := 58) hx hb dX4_put_129 (by decide) ?_
                      exact ih58 j (n1 + 1) (upd f1 n1 (btv v j)) (by omega) (by omega) e9 (by omega) H locs hP hD hS ls (lv_sub hl [2, 3, 4, 0] rfl)
                    · skip
                      exact absurd (by first | exact c78_10 | exact Decidable.not_not.mp c78_10) w0
              exact loop58 (cn.toInt.toNat + 1) cn.toInt.toNat nk fk rfl (Nat.le_refl _) rfl (by omega) H locs hP hD hS ls (lv_sub hl [1, 2, 3, 0] rfl)
            · skip
              rw [ti_le, tc_100, addI hk (by omega) (by omega)] at c47_6
              refine lv_iconst (v := 0) hx hb dX4_put_50 (by decide) ?_
              subst hQ
              exact W.zret (v := 0) hx hb hr (by decide) (fun t ht hW => ⟨⟨_, ((fv, nv), (fk, nk)), rfl, putM_no (fun q => by have q := congrArg Int32.toInt q; rw [tc_0] at q; omega) (fun q => by have q := congrArg Int32.toInt q; rw [tc_1] at q; omega), by rw [ht]; exact hP, hD⟩, hS.F ht⟩) hS.2.2 dX4_put_51
          · skip
            have w0 : w = 0 := (by first | exact c28_5 | exact Decidable.not_not.mp c28_5)
            have wz : w.toInt = 0 := by rw [w0]; decide
            refine lv_aload_n hx hb dX4_put_31 rfl (lv_at hl 0 rfl) ?_
            refine va_get (D := (dC, dI)) (ci := 4) (v := .int (nI nv)) (C := RX4) (T := TX4) (N := 12) hx hb hw inX4 hown hK hP 0 rfl rfl 3 (by decide) (hw _ mw247) (fun _ h9 => h9) rfl dX4_put_32 ?_
            refine lv_goto (tgt := 42) hx hb dX4_put_35 (by decide) ?_
            refine lv_iload hx hb dX4_put_42 (lv_at hl 3 rfl) ?_
            refine lv_iadd hx hb dX4_put_44 ?_
            refine lv_bipush (v := 100) hx hb dX4_put_45 (by decide) ?_
            refine lv_icmp_le (tgt := 52) hx hb dX4_put_47 (by decide) (fun c47_12 => ?_) (fun c47_12 => ?_)
            · skip
              rw [ti_le, tc_100, addI hv (by omega) (by omega)] at c47_12
              have q0 : 1 ≤ cn.toInt ∧ cn.toInt ≤ 8 ∧ cn.toInt + nv ≤ 100 := by omega
              refine lv_iload hx hb dX4_put_52 (lv_at hl 3 rfl) ?_
              refine lv_iconst (v := 1) hx hb dX4_put_54 (by decide) ?_
              refine lv_isub hx hb dX4_put_55 ?_
              refine lv_topi (fun x14 ex14 => ?_)
              obtain rfl : x14 = (nI cn.toInt.toNat) - (1) := by rw [ex14]; exact congrArg (fun z : Int32 => z - 1) (Int32.toInt_inj.mp (by rw [nI_toInt (by omega)]; omega))
              refine lv_istore (lv' := [(5, .int ((nI cn.toInt.toNat) - (1))), (0, .ref mo), (1, .int (w)), (2, .long (v)), (4, .int (cn))]) hx hb dX4_put_56 hl (by decide) rfl (fun ls hl => ?_)
              have loop58 : ∀ (nn58 : Nat) (i n1 : Nat) (f1 : Nat → Int32) (hi9 : n1 + i = nv + cn.toInt.toNat) (hn1 : nv ≤ n1) (e9 : apA v i f1 n1 = apA v cn.toInt.toNat fv nv) (_ : i < nn58) (H : Heap) (locs : List Loc) (_ : va_P (dC, dI) cl5 [(mo, .inr (4, [.int (nI 0), .ref mv, .ref mk, .int (nI n1), .int (nI nk), .int (nI sn), .ref ms, .ref ml, .ref mc, .int (nI ct), .ref mf, .ref mn])), (mv, .inl (jv, 100, .inl f1)), (mk, .inl (jk, 100, .inl fk)), (ms, .inl (js, 100, .inl gs)), (ml, .inl (jl, 100, .inl gl)), (mc, .inl (jc, 10201, .inl gc)), (mf, .inl (jf, 100, .inl gf)), (mn, .inl (jn, 100, .inl gn))] H) (_ : va_D A [(mo, .inr (4, [.int (nI 0), .ref mv, .ref mk, .int (nI n1), .int (nI nk), .int (nI sn), .ref ms, .ref ml, .ref mc, .int (nI ct), .ref mf, .ref mn])), (mv, .inl (jv, 100, .inl f1)), (mk, .inl (jk, 100, .inl fk)), (ms, .inl (js, 100, .inl gs)), (ml, .inl (jl, 100, .inl gl)), (mc, .inl (jc, 10201, .inl gc)), (mf, .inl (jf, 100, .inl gf)), (mn, .inl (jn, 100, .inl gn))]) (_ : va_S A s.heap H locs) (ls : Array Slot) (_ : lv_has ls 7 [(0, .ref mo), (1, .int (w)), (2, .long (v)), (5, .int ((nI i) - (1)))]), W p l e rm_m_put s m args below meth c H locs 0 0 Q (F0 m 58 ls []) := by
                intro nn58
                induction nn58 with
                | zero => intro i n1 f1 hi9 hn1 e9 hm58 H locs hP hD hS ls hl; exact absurd hm58 (Nat.not_lt_zero _)
                | succ nn58 ih58 =>
                  intro i n1 f1 hi9 hn1 e9 hm58 H locs hP hD hS ls hl
                  refine lv_iload hx hb dX4_put_58 (lv_at hl 3 rfl) ?_
                  refine lv_if_lt (tgt := 132) hx hb dX4_put_60 (by decide) (fun c60_14 => ?_) (fun c60_14 => ?_)
                  · skip
                    have e8 := nI_m1n (by omega) c60_14
                    refine lv_iconst (v := 1) hx hb dX4_put_132 (by decide) ?_
                    subst hQ
                    exact W.zret (v := 1) hx hb hr (by decide) (fun t ht hW => ⟨⟨_, ((f1, n1), (fk, nk)), rfl, ⟨by rw [if_pos w0, apR_ok q0], by rw [if_pos w0, apF_ok q0, ← e9, e8, show n1 = nv + cn.toInt.toNat from by omega]; rfl⟩, by rw [ht]; exact hP, hD⟩, hS.F ht⟩) hS.2.2 dX4_put_133
                  · skip
                    obtain ⟨j, rfl⟩ := nI_m1_pos c60_14
                    rw [nI_pred] at hl
                    refine lv_lload_n hx hb dX4_put_63 rfl (lv_at hl 2 rfl) ?_
                    refine lv_bipush (v := 8) hx hb dX4_put_64 (by decide) ?_
                    refine lv_iload hx hb dX4_put_66 (lv_at hl 3 rfl) ?_
                    refine lv_imul hx hb dX4_put_68 ?_
                    refine lv_lushr hx hb dX4_put_69 rfl ?_
                    refine lv_l2i hx hb dX4_put_70 rfl ?_
                    refine lv_sipush (v := 255) hx hb dX4_put_71 (by decide) ?_
                    refine lv_iand hx hb dX4_put_74 ?_
                    refine lv_topi (fun x16 ex16 => ?_)
                    obtain rfl : x16 = btv v j := by rw [ex16]; rfl
                    refine lv_istore (lv' := [(6, .int (btv v j)), (0, .ref mo), (1, .int (w)), (2, .long (v)), (5, .int (nI j))]) hx hb dX4_put_75 hl (by decide) rfl (fun ls hl => ?_)
                    refine lv_iload_n hx hb dX4_put_77 rfl (lv_at hl 2 rfl) ?_
                    refine lv_if_ne (tgt := 105) hx hb dX4_put_78 (by decide) (fun c78_16 => ?_) (fun c78_16 => ?_)
                    · skip
                      exact absurd w0 c78_16
                    · skip
                      refine lv_aload_n hx hb dX4_put_81 rfl (lv_at hl 1 rfl) ?_
                      refine va_get (D := (dC, dI)) (ci := 4) (v := .ref mv) (C := RX4) (T := TX4) (N := 12) hx hb hw inX4 hown hK hP 0 rfl rfl 1 (by decide) (hw _ mw245) (fun _ h9 => h9) rfl dX4_put_82 ?_
                      refine lv_aload_n hx hb dX4_put_85 rfl (lv_at hl 1 rfl) ?_
                      refine va_get (D := (dC, dI)) (ci := 4) (v := .int (nI n1)) (C := RX4) (T := TX4) (N := 12) hx hb hw inX4 hown hK hP 0 rfl rfl 3 (by decide) (hw _ mw247) (fun _ h9 => h9) rfl dX4_put_86 ?_
                      refine lv_iload hx hb dX4_put_89 (lv_at hl 0 rfl) ?_
                      refine va_iast hx hb hK hP hD hS 1 0 rfl rfl (i := (nI n1)) (vp_in_nI (by omega) (by omega)) dX4_put_91 (fun H locs hP hD hS => ?_)
                      rw [nI_clamp (by omega)] at hP hD
                      have hP : va_P (dC, dI) cl5 [(mo, .inr (4, [.int (nI 0), .ref mv, .ref mk, .int (nI n1), .int (nI nk), .int (nI sn), .ref ms, .ref ml, .ref mc, .int (nI ct), .ref mf, .ref mn])), (mv, .inl (jv, 100, .inl (upd f1 n1 (btv v j)))), (mk, .inl (jk, 100, .inl fk)), (ms, .inl (js, 100, .inl gs)), (ml, .inl (jl, 100, .inl gl)), (mc, .inl (jc, 10201, .inl gc)), (mf, .inl (jf, 100, .inl gf)), (mn, .inl (jn, 100, .inl gn))] H := hP
                      have hD : va_D A [(mo, .inr (4, [.int (nI 0), .ref mv, .ref mk, .int (nI n1), .int (nI nk), .int (nI sn), .ref ms, .ref ml, .ref mc, .int (nI ct), .ref mf, .ref mn])), (mv, .inl (jv, 100, .inl (upd f1 n1 (btv v j)))), (mk, .inl (jk, 100, .inl fk)), (ms, .inl (js, 100, .inl gs)), (ml, .inl (jl, 100, .inl gl)), (mc, .inl (jc, 10201, .inl gc)), (mf, .inl (jf, 100, .inl gf)), (mn, .inl (jn, 100, .inl gn))] := hD
                      refine lv_aload_n hx hb dX4_put_92 rfl (lv_at hl 1 rfl) ?_
                      refine lv_dup hx hb dX4_put_93 rfl ?_
                      refine va_get (D := (dC, dI)) (ci := 4) (v := .int (nI n1)) (C := RX4) (T := TX4) (N := 12) hx hb hw inX4 hown hK hP 0 rfl rfl 3 (by decide) (hw _ mw247) (fun _ h9 => h9) rfl dX4_put_94 ?_
                      refine lv_iconst (v := 1) hx hb dX4_put_97 (by decide) ?_
                      refine lv_iadd hx hb dX4_put_98 ?_
                      refine lv_topi (fun x18 ex18 => ?_)
                      obtain rfl : x18 = nI (n1 + 1) := by rw [ex18]; exact nI_add (n1) 1
                      refine va_put (D := (dC, dI)) (ci := 4) (v := .int (nI (n1 + 1))) (ty := .int) (C := RX4) (T := TX4) (N := 12) hx hb hw inX4 tyX4 tyX4_ok nmX4 hown hK hP hD hS 0 rfl rfl 3 (by decide) (hw _ mw247) (fun _ h9 => h9) rfl (by decide +kernel) rfl rfl (Nat.le_of_ble_eq_true rfl) dX4_put_99 (fun H locs hP hD hS => ?_)
                      have hP : va_P (dC, dI) cl5 [(mo, .inr (4, [.int (nI 0), .ref mv, .ref mk, .int (nI (n1 + 1)), .int (nI nk), .int (nI sn), .ref ms, .ref ml, .ref mc, .int (nI ct), .ref mf, .ref mn])), (mv, .inl (jv, 100, .inl (upd f1 n1 (btv v j)))), (mk, .inl (jk, 100, .inl fk)), (ms, .inl (js, 100, .inl gs)), (ml, .inl (jl, 100, .inl gl)), (mc, .inl (jc, 10201, .inl gc)), (mf, .inl (jf, 100, .inl gf)), (mn, .inl (jn, 100, .inl gn))] H := hP
                      have hD : va_D A [(mo, .inr (4, [.int (nI 0), .ref mv, .ref mk, .int (nI (n1 + 1)), .int (nI nk), .int (nI sn), .ref ms, .ref ml, .ref mc, .int (nI ct), .ref mf, .ref mn])), (mv, .inl (jv, 100, .inl (upd f1 n1 (btv v j)))), (mk, .inl (jk, 100, .inl fk)), (ms, .inl (js, 100, .inl gs)), (ml, .inl (jl, 100, .inl gl)), (mc, .inl (jc, 10201, .inl gc)), (mf, .inl (jf, 100, .inl gf)), (mn, .inl (jn, 100, .inl gn))] := hD
                      refine lv_goto (tgt := 126) hx hb dX4_put_102 (by decide) ?_
                      refine lv_iinc (v := (nI j) - (1)) (lv' := [(5, .int ((nI j) - (1))), (6, .int (btv v j)), (0, .ref mo), (1, .int (w)), (2, .long (v))]) hx hb dX4_put_126 hl (k := 4) rfl (nI_dec j) (by decide) rfl (fun ls hl => ?_)
                      refine lv_goto (tgt := 58) hx hb dX4_put_129 (by decide) ?_
                      exact ih58 j (n1 + 1) (upd f1 n1 (btv v j)) (by omega) (by omega) e9 (by omega) H locs hP hD hS ls (lv_sub hl [2, 3, 4, 0] rfl)
              exact loop58 (cn.toInt.toNat + 1) cn.toInt.toNat nv fv rfl (Nat.le_refl _) rfl (by omega) H locs hP hD hS ls (lv_sub hl [1, 2, 3, 0] rfl)
            · skip
              rw [ti_le, tc_100, addI hv (by omega) (by omega)] at c47_12
              refine lv_iconst (v := 0) hx hb dX4_put_50 (by decide) ?_
              subst hQ
              exact W.zret (v := 0) hx hb hr (by decide) (fun t ht hW => ⟨⟨_, ((fv, nv), (fk, nk)), rfl, putM_no (fun q => by have q := congrArg Int32.toInt q; rw [tc_0] at q; omega) (fun q => by have q := congrArg Int32.toInt q; rw [tc_1] at q; omega), by rw [ht]; exact hP, hD⟩, hS.F ht⟩) hS.2.2 dX4_put_51

abbrev rm_m_match : Room := { frames := 3, cells := 0, slots := 0, locals := 70 }
set_option maxHeartbeats 4000000 in
set_option maxRecDepth 100000 in
theorem m_match (l : Launch) (dC : Nat → ClassId) (dI : Nat → Nat → Nat) (sz : Nat) (mo mv mk ms ml mc mf mn : Nat) (jv jk js jl jc jf jn : ClassId) (fv fk gs gl gc gf gn : Nat → Int32) (nv nk sn ct : Nat) (th : Int32) (hv : nv ≤ 100) (hk : nk ≤ 100) (hct : ct ≤ 100) (hrk : rng fk nk) (mm cp : Int32) : Met l yX4_match (.code yX4_match cX4_match 3 (some (.int)) :: wsA) rm_m_match (va_Pc [.ref mo, .int (mm), .int (cp)] (wr (dC, dI) [(mo, .inr (4, [.int (th), .ref mv, .ref mk, .int (nI nv), .int (nI nk), .int (nI sn), .ref ms, .ref ml, .ref mc, .int (nI ct), .ref mf, .ref mn])), (mv, .inl (jv, 100, .inl fv)), (mk, .inl (jk, 100, .inl fk)), (ms, .inl (js, 100, .inl gs)), (ml, .inl (jl, 100, .inl gl)), (mc, .inl (jc, 10201, .inl gc)), (mf, .inl (jf, 100, .inl gf)), (mn, .inl (jn, 100, .inl gn))] [(jv, .int), (jk, .int), (js, .int), (jl, .int), (jc, .boolean), (jf, .int), (jn, .int)] sz)) (va_Qi (fun (r : Int32) (u : (Nat → Int32) × (Nat → Int32) × Nat × (Nat → Int32) × (Nat → Int32) × (Nat → Int32) × Nat) => u.2.2.2.2.2.2 ≤ 100 ∧ mfin fv fk nv nk mm cp gf gn ct r u.2.2.2.2.1 u.2.2.2.2.2.1 u.2.2.2.2.2.2) (wB (dC, dI) (va_A [(mo, .inr (4, [.int (th), .ref mv, .ref mk, .int (nI nv), .int (nI nk), .int (nI sn), .ref ms, .ref ml, .ref mc, .int (nI ct), .ref mf, .ref mn])), (mv, .inl (jv, 100, .inl fv)), (mk, .inl (jk, 100, .inl fk)), (ms, .inl (js, 100, .inl gs)), (ml, .inl (jl, 100, .inl gl)), (mc, .inl (jc, 10201, .inl gc)), (mf, .inl (jf, 100, .inl gf)), (mn, .inl (jn, 100, .inl gn))] sz) (fun u : (Nat → Int32) × (Nat → Int32) × Nat × (Nat → Int32) × (Nat → Int32) × (Nat → Int32) × Nat => [(mo, .inr (4, [.int (nI 0), .ref mv, .ref mk, .int (nI nv), .int (nI nk), .int (nI u.2.2.1), .ref ms, .ref ml, .ref mc, .int (nI u.2.2.2.2.2.2), .ref mf, .ref mn])), (mv, .inl (jv, 100, .inl fv)), (mk, .inl (jk, 100, .inl fk)), (ms, .inl (js, 100, .inl (u.1))), (ml, .inl (jl, 100, .inl (u.2.1))), (mc, .inl (jc, 10201, .inl (u.2.2.2.1))), (mf, .inl (jf, 100, .inl (u.2.2.2.2.1))), (mn, .inl (jn, 100, .inl (u.2.2.2.2.2.1)))])) (va_A [(mo, .inr (4, [.int (th), .ref mv, .ref mk, .int (nI nv), .int (nI nk), .int (nI sn), .ref ms, .ref ml, .ref mc, .int (nI ct), .ref mf, .ref mn])), (mv, .inl (jv, 100, .inl fv)), (mk, .inl (jk, 100, .inl fk)), (ms, .inl (js, 100, .inl gs)), (ml, .inl (jl, 100, .inl gl)), (mc, .inl (jc, 10201, .inl gc)), (mf, .inl (jf, 100, .inl gf)), (mn, .inl (jn, 100, .inl gn))] sz)) 0 0 (va_A [(mo, .inr (4, [.int (th), .ref mv, .ref mk, .int (nI nv), .int (nI nk), .int (nI sn), .ref ms, .ref ml, .ref mc, .int (nI ct), .ref mf, .ref mn])), (mv, .inl (jv, 100, .inl fv)), (mk, .inl (jk, 100, .inl fk)), (ms, .inl (js, 100, .inl gs)), (ml, .inl (jl, 100, .inl gl)), (mc, .inl (jc, 10201, .inl gc)), (mf, .inl (jf, 100, .inl gf)), (mn, .inl (jn, 100, .inl gn))] sz) := by
  refine Met.ofW (cc := cX4_match) (maxL := 3) (ret := (some (.int))) (by decide) rfl ?_
  intro p e s m args below meth c s₁ B hml hv
  obtain ⟨hargs, hsz, hN, hP, hK, hD0⟩ := hv
  have hx := B.exec
  have hb := B.bytes
  have hr := B.returns
  have hw : ∀ w ∈ wsA, w.before args s = true := fun w h => atoms_spec (ws := (.code yX4_match cX4_match 3 (some (.int)) :: wsA)) B.pre w (List.mem_cons_of_mem _ h)
  have hown : s.vm.findClass "GlobDeskModel" = some m.cls := findClass_of_methodNamed B.named
  have hlocks := B.notSynchronized
  subst hsz
  have hD := hD0.self (sz := s.heap.size)
  generalize hAe : va_A [(mo, .inr (4, [.int (th), .ref mv, .ref mk, .int (nI nv), .int (nI nk), .int (nI sn), .ref ms, .ref ml, .ref mc, .int (nI ct), .ref mf, .ref mn])), (mv, .inl (jv, 100, .inl fv)), (mk, .inl (jk, 100, .inl fk)), (ms, .inl (js, 100, .inl gs)), (ml, .inl (jl, 100, .inl gl)), (mc, .inl (jc, 10201, .inl gc)), (mf, .inl (jf, 100, .inl gf)), (mn, .inl (jn, 100, .inl gn))] s.heap.size = A at hD ⊢
  have hA : ∀ q : Nat, s.heap.size ≤ q → A q := fun q h => by rw [← hAe]; exact Or.inr h
  have hS : va_S A s.heap s.heap [] := va_S.rf
  generalize hQ : MQ below _ args s _ _ _ = Q
  change W p l e rm_m_match s m args below meth c s.heap [] 0 0 Q (entryFrame m args 3)
  have hl := lv_entry ([.ref mo, .int (mm), .int (cp)]) (n := 3) (Nat.le_of_ble_eq_true rfl)
  rw [show entryFrame m args 3 = entryFrame m ([.ref mo, .int (mm), .int (cp)] : List Value).toArray 3 from by rw [hargs], lg_entry_eq]
  generalize (lg_sl ([.ref mo, .int (mm), .int (cp)]) ++ List.replicate (3 - (lg_sl ([.ref mo, .int (mm), .int (cp)])).length) Slot.unset).toArray = ls at hl ⊢
  have hl : lv_has ls 3 [(0, .ref mo), (1, .int (mm)), (2, .int (cp))] := hl
  refine lv_aload_n hx hb dX4_match_0 rfl (lv_at hl 0 rfl) ?_
  refine lv_iconst (v := 0) hx hb dX4_match_1 (by decide) ?_
  refine lv_topi (fun x1 ex1 => ?_)
  obtain rfl : x1 = nI 0 := by rw [ex1]; exact nI_0.symm
  refine va_put (D := (dC, dI)) (ci := 4) (v := .int (nI 0)) (ty := .int) (C := RX4) (T := TX4) (N := 12) hx hb hw inX4 tyX4 tyX4_ok nmX4 hown hK hP hD hS 0 rfl rfl 0 (by decide) (hw _ mw244) (fun _ h9 => h9) rfl (by decide +kernel) rfl rfl (Nat.le_of_ble_eq_true rfl) dX4_match_2 (fun H locs hP hD hS => ?_)
  have hP : va_P (dC, dI) cl5 [(mo, .inr (4, [.int (nI 0), .ref mv, .ref mk, .int (nI nv), .int (nI nk), .int (nI sn), .ref ms, .ref ml, .ref mc, .int (nI ct), .ref mf, .ref mn])), (mv, .inl (jv, 100, .inl fv)), (mk, .inl (jk, 100, .inl fk)), (ms, .inl (js, 100, .inl gs)), (ml, .inl (jl, 100, .inl gl)), (mc, .inl (jc, 10201, .inl gc)), (mf, .inl (jf, 100, .inl gf)), (mn, .inl (jn, 100, .inl gn))] H := hP
  have hD : va_D A [(mo, .inr (4, [.int (nI 0), .ref mv, .ref mk, .int (nI nv), .int (nI nk), .int (nI sn), .ref ms, .ref ml, .ref mc, .int (nI ct), .ref mf, .ref mn])), (mv, .inl (jv, 100, .inl fv)), (mk, .inl (jk, 100, .inl fk)), (ms, .inl (js, 100, .inl gs)), (ml, .inl (jl, 100, .inl gl)), (mc, .inl (jc, 10201, .inl gc)), (mf, .inl (jf, 100, .inl gf)), (mn, .inl (jn, 100, .inl gn))] := hD
  refine lv_iload_n hx hb dX4_match_5 rfl (lv_at hl 1 rfl) ?_
  refine lv_if_lt (tgt := 23) hx hb dX4_match_6 (by decide) (fun c6_1 => ?_) (fun c6_1 => ?_)
  · skip
    rw [ti_lt, tc_0] at c6_1
    have zo : ¬ mOk mm cp := fun q => by have := q.1; omega
    refine lv_iconst (v := -1) hx hb dX4_match_23 (by decide) ?_
    subst hQ
    exact W.iret (v := (-1)) hx hb hr (fun t ht hW => ⟨⟨_, (gs, gl, sn, gc, gf, gn, ct), rfl, ⟨hct, Or.inr ⟨zo, rfl, rfl, rfl, rfl⟩⟩, by rw [ht]; exact hP, hD⟩, hS.F ht⟩) hS.2.2 dX4_match_24
  · skip
    rw [ti_lt, tc_0] at c6_1
    refine lv_iload_n hx hb dX4_match_9 rfl (lv_at hl 1 rfl) ?_
    refine lv_iconst (v := 2) hx hb dX4_match_10 (by decide) ?_
    refine lv_icmp_gt (tgt := 23) hx hb dX4_match_11 (by decide) (fun c11_2 => ?_) (fun c11_2 => ?_)
    · skip
      rw [ti_lt, tc_2] at c11_2
      have zo : ¬ mOk mm cp := fun q => by have := q.2.1; omega
      refine lv_iconst (v := -1) hx hb dX4_match_23 (by decide) ?_
      subst hQ
      exact W.iret (v := (-1)) hx hb hr (fun t ht hW => ⟨⟨_, (gs, gl, sn, gc, gf, gn, ct), rfl, ⟨hct, Or.inr ⟨zo, rfl, rfl, rfl, rfl⟩⟩, by rw [ht]; exact hP, hD⟩, hS.F ht⟩) hS.2.2 dX4_match_24
    · skip
      rw [ti_lt, tc_2] at c11_2
      refine lv_iload_n hx hb dX4_match_14 rfl (lv_at hl 2 rfl) ?_
      refine lv_if_lt (tgt := 23) hx hb dX4_match_15 (by decide) (fun c15_3 => ?_) (fun c15_3 => ?_)
      · skip
        rw [ti_lt, tc_0] at c15_3
        have zo : ¬ mOk mm cp := fun q => by have := q.2.2.1; omega
        refine lv_iconst (v := -1) hx hb dX4_match_23 (by decide) ?_
        subst hQ
        exact W.iret (v := (-1)) hx hb hr (fun t ht hW => ⟨⟨_, (gs, gl, sn, gc, gf, gn, ct), rfl, ⟨hct, Or.inr ⟨zo, rfl, rfl, rfl, rfl⟩⟩, by rw [ht]; exact hP, hD⟩, hS.F ht⟩) hS.2.2 dX4_match_24
      · skip
        rw [ti_lt, tc_0] at c15_3
        refine lv_iload_n hx hb dX4_match_18 rfl (lv_at hl 2 rfl) ?_
        refine lv_iconst (v := 2) hx hb dX4_match_19 (by decide) ?_
        refine lv_icmp_le (tgt := 25) hx hb dX4_match_20 (by decide) (fun c20_4 => ?_) (fun c20_4 => ?_)
        · skip
          rw [ti_le, tc_2] at c20_4
          have zo : mOk mm cp := ⟨by omega, by omega, by omega, by omega⟩
          refine lv_aload_n hx hb dX4_match_25 rfl (lv_at hl 0 rfl) ?_
          refine lv_iconst (v := 0) hx hb dX4_match_26 (by decide) ?_
          refine lv_topi (fun x6 ex6 => ?_)
          obtain rfl : x6 = nI 0 := by rw [ex6]; exact nI_0.symm
          refine va_put (D := (dC, dI)) (ci := 4) (v := .int (nI 0)) (ty := .int) (C := RX4) (T := TX4) (N := 12) hx hb hw inX4 tyX4 tyX4_ok nmX4 hown hK hP hD hS 0 rfl rfl 9 (by decide) (hw _ mw253) (fun _ h9 => h9) rfl (by decide +kernel) rfl rfl (Nat.le_of_ble_eq_true rfl) dX4_match_27 (fun H locs hP hD hS => ?_)
          have hP : va_P (dC, dI) cl5 [(mo, .inr (4, [.int (nI 0), .ref mv, .ref mk, .int (nI nv), .int (nI nk), .int (nI sn), .ref ms, .ref ml, .ref mc, .int (nI 0), .ref mf, .ref mn])), (mv, .inl (jv, 100, .inl fv)), (mk, .inl (jk, 100, .inl fk)), (ms, .inl (js, 100, .inl gs)), (ml, .inl (jl, 100, .inl gl)), (mc, .inl (jc, 10201, .inl gc)), (mf, .inl (jf, 100, .inl gf)), (mn, .inl (jn, 100, .inl gn))] H := hP
          have hD : va_D A [(mo, .inr (4, [.int (nI 0), .ref mv, .ref mk, .int (nI nv), .int (nI nk), .int (nI sn), .ref ms, .ref ml, .ref mc, .int (nI 0), .ref mf, .ref mn])), (mv, .inl (jv, 100, .inl fv)), (mk, .inl (jk, 100, .inl fk)), (ms, .inl (js, 100, .inl gs)), (ml, .inl (jl, 100, .inl gl)), (mc, .inl (jc, 10201, .inl gc)), (mf, .inl (jf, 100, .inl gf)), (mn, .inl (jn, 100, .inl gn))] := hD
          refine lv_iload_n hx hb dX4_match_30 rfl (lv_at hl 1 rfl) ?_
          refine lv_if_ne (tgt := 48) hx hb dX4_match_31 (by decide) (fun c31_6 => ?_) (fun c31_6 => ?_)
          · skip
            have z0 : ¬ mm = 0 := c31_6
            refine lv_iload_n hx hb dX4_match_48 rfl (lv_at hl 2 rfl) ?_
            refine lv_iconst (v := 2) hx hb dX4_match_49 (by decide) ?_
            refine lv_icmp_ne (tgt := 55) hx hb dX4_match_50 (by decide) (fun c50_7 => ?_) (fun c50_7 => ?_)
            · skip
              have z2 : ¬ cp = 2 := c50_7
              refine lv_iload_n hx hb dX4_match_55 rfl (lv_at hl 1 rfl) ?_
              refine lv_iconst (v := 1) hx hb dX4_match_56 (by decide) ?_
              refine lv_icmp_ne (tgt := 71) hx hb dX4_match_57 (by decide) (fun c57_8 => ?_) (fun c57_8 => ?_)
              · skip
                have z3 : ¬ mm = 1 := c57_8
                have hEq := fun L => sMat_2 (v := fv) (k := fk) (nv := nv) (nk := nk) (two32 zo.1 zo.2.1 z0 z3) z2 L
                refine lv_aload_n hx hb dX4_match_71 rfl (lv_at hl 0 rfl) ?_
                refine lv_iload_n hx hb dX4_match_72 rfl (lv_at hl 2 rfl) ?_
                have hPc := hP.sub (ws' := [(mo, .inr (4, [.int (nI 0), .ref mv, .ref mk, .int (nI nv), .int (nI nk), .int (nI sn), .ref ms, .ref ml, .ref mc, .int (nI 0), .ref mf, .ref mn])), (mv, .inl (jv, 100, .inl fv)), (mk, .inl (jk, 100, .inl fk)), (ms, .inl (js, 100, .inl gs)), (ml, .inl (jl, 100, .inl gl)), (mc, .inl (jc, 10201, .inl gc)), (mf, .inl (jf, 100, .inl gf)), (mn, .inl (jn, 100, .inl gn))]) [0, 1, 2, 3, 4, 5, 6, 7] rfl
                have hDc := hD.sub (ws' := [(mo, .inr (4, [.int (nI 0), .ref mv, .ref mk, .int (nI nv), .int (nI nk), .int (nI sn), .ref ms, .ref ml, .ref mc, .int (nI 0), .ref mf, .ref mn])), (mv, .inl (jv, 100, .inl fv)), (mk, .inl (jk, 100, .inl fk)), (ms, .inl (js, 100, .inl gs)), (ml, .inl (jl, 100, .inl gl)), (mc, .inl (jc, 10201, .inl gc)), (mf, .inl (jf, 100, .inl gf)), (mn, .inl (jn, 100, .inl gn))]) [0, 1, 2, 3, 4, 5, 6, 7] (by decide) rfl
                have hKc := hK.sub (tys' := [(jv, .int), (jk, .int), (js, .int), (jl, .int), (jc, .boolean), (jf, .int), (jn, .int)]) [0, 1, 2, 3, 4, 5, 6] rfl
                have hFc := va_free (wc := [(mo, .inr (4, [.int (nI 0), .ref mv, .ref mk, .int (nI nv), .int (nI nk), .int (nI sn), .ref ms, .ref ml, .ref mc, .int (nI 0), .ref mf, .ref mn])), (mv, .inl (jv, 100, .inl fv)), (mk, .inl (jk, 100, .inl fk)), (ms, .inl (js, 100, .inl gs)), (ml, .inl (jl, 100, .inl gl)), (mc, .inl (jc, 10201, .inl gc)), (mf, .inl (jf, 100, .inl gf)), (mn, .inl (jn, 100, .inl gn))]) hD hS hA [0, 1, 2, 3, 4, 5, 6, 7] rfl
                refine va_calli (va_runV (As := [.int (cp)]) (rest := []) ⟨hx, hb, hml, hown, hw⟩ (m_like l dC dI H.size mo mv mk ms ml mc mf mn jv jk js jl jc jf jn fv fk gs gl gc gf gn nv nk sn (nI 0) hv hk hrk cp) (cwV 1 hw (gV mw315 mw317 mw13 mw20 mw318) rfl rfl rfl (by decide +kernel) ⟨Nat.le_of_ble_eq_true rfl, Nat.le_of_ble_eq_true rfl⟩) (wr.V (q0 := 0) (ci := 4) hN hKc hPc hDc rfl rfl) rfl rfl hl.1 rfl (lv_room (Nat.le_of_ble_eq_true rfl)) dX4_match_73 ⟨Nat.le_of_ble_eq_true rfl, Nat.le_of_ble_eq_true rfl⟩) hS (fun q _ h => hFc q h) hFc (fun r10 ur10 t H1 locs ht hvm hr10 hB hz1 hk1 hS => ?_)
                obtain ⟨w1, w2, p1, w3, s1, s2, n2⟩ := ur10
                obtain ⟨hs1, hmr, hz9⟩ := hr10
                dsimp only at hs1 hmr hz9
                obtain ⟨hP1, hD1⟩ := hB
                rw [ht] at hP1
                obtain ⟨hP, hD⟩ := va_join (wr := []) (w1 := [(mo, .inr (4, [.int (nI 0), .ref mv, .ref mk, .int (nI nv), .int (nI nk), .int (nI p1), .ref ms, .ref ml, .ref mc, .int (nI n2), .ref mf, .ref mn])), (mv, .inl (jv, 100, .inl fv)), (mk, .inl (jk, 100, .inl fk)), (ms, .inl (js, 100, .inl w1)), (ml, .inl (jl, 100, .inl w2)), (mc, .inl (jc, 10201, .inl w3)), (mf, .inl (jf, 100, .inl s1)), (mn, .inl (jn, 100, .inl s2))]) hP hD [0, 1, 2, 3, 4, 5, 6, 7] [] rfl rfl (by decide) (by decide) hk1 hFc hP1 hD1
                generalize H1 = H at hP hS ⊢
                have hP : va_P (dC, dI) cl5 [(mo, .inr (4, [.int (nI 0), .ref mv, .ref mk, .int (nI nv), .int (nI nk), .int (nI p1), .ref ms, .ref ml, .ref mc, .int (nI n2), .ref mf, .ref mn])), (mv, .inl (jv, 100, .inl fv)), (mk, .inl (jk, 100, .inl fk)), (ms, .inl (js, 100, .inl w1)), (ml, .inl (jl, 100, .inl w2)), (mc, .inl (jc, 10201, .inl w3)), (mf, .inl (jf, 100, .inl s1)), (mn, .inl (jn, 100, .inl s2))] H := hP.sub [0, 1, 2, 3, 4, 5, 6, 7] rfl
                have hD : va_D A [(mo, .inr (4, [.int (nI 0), .ref mv, .ref mk, .int (nI nv), .int (nI nk), .int (nI p1), .ref ms, .ref ml, .ref mc, .int (nI n2), .ref mf, .ref mn])), (mv, .inl (jv, 100, .inl fv)), (mk, .inl (jk, 100, .inl fk)), (ms, .inl (js, 100, .inl w1)), (ml, .inl (jl, 100, .inl w2)), (mc, .inl (jc, 10201, .inl w3)), (mf, .inl (jf, 100, .inl s1)), (mn, .inl (jn, 100, .inl s2))] := hD.sub [0, 1, 2, 3, 4, 5, 6, 7] (by decide) rfl
                refine lv_if_eq (tgt := 83) hx hb dX4_match_76 (by decide) (fun c76_10 => ?_) (fun c76_10 => ?_)
                · skip
                  have z5 := c76_10
                  refine lv_iconst (v := 0) hx hb dX4_match_83 (by decide) ?_
                  subst hQ
                  exact W.iret (v := 0) hx hb hr (fun t ht hW => ⟨⟨_, (w1, w2, p1, w3, s1, s2, n2), rfl, ⟨hs1, Or.inl ⟨zo, Or.inr ⟨rfl, (mres_mono hEq hmr).elim (fun h => absurd (h.1.symm.trans (by first | exact z5 | exact Decidable.not_not.mp z5)) (by decide)) (fun h => h.2), hz9 (by first | exact z5 | exact Decidable.not_not.mp z5)⟩⟩⟩, by rw [ht]; exact hP, hD⟩, hS.F ht⟩) hS.2.2 dX4_match_84
                · skip
                  have z5 := c76_10
                  refine lv_iconst (v := 1) hx hb dX4_match_79 (by decide) ?_
                  refine lv_goto (tgt := 84) hx hb dX4_match_80 (by decide) ?_
                  subst hQ
                  exact W.iret (v := 1) hx hb hr (fun t ht hW => ⟨⟨_, (w1, w2, p1, w3, s1, s2, n2), rfl, ⟨hs1, Or.inl ⟨zo, Or.inl ((mres_mono hEq hmr).elim (fun h => ⟨rfl, h.2⟩) (fun h => absurd h.1 z5))⟩⟩, by rw [ht]; exact hP, hD⟩, hS.F ht⟩) hS.2.2 dX4_match_84
              · skip
                have z3 : mm = 1 := (by first | exact c57_8 | exact Decidable.not_not.mp c57_8)
                have hEq := fun L => sMat_1 (v := fv) (k := fk) (nv := nv) (nk := nk) z3 z2 L
                refine lv_aload_n hx hb dX4_match_60 rfl (lv_at hl 0 rfl) ?_
                refine lv_iload_n hx hb dX4_match_61 rfl (lv_at hl 2 rfl) ?_
                have hPc := hP.sub (ws' := [(mo, .inr (4, [.int (nI 0), .ref mv, .ref mk, .int (nI nv), .int (nI nk), .int (nI sn), .ref ms, .ref ml, .ref mc, .int (nI 0), .ref mf, .ref mn])), (mv, .inl (jv, 100, .inl fv)), (mk, .inl (jk, 100, .inl fk)), (ms, .inl (js, 100, .inl gs)), (ml, .inl (jl, 100, .inl gl)), (mc, .inl (jc, 10201, .inl gc)), (mf, .inl (jf, 100, .inl gf)), (mn, .inl (jn, 100, .inl gn))]) [0, 1, 2, 3, 4, 5, 6, 7] rfl
                have hDc := hD.sub (ws' := [(mo, .inr (4, [.int (nI 0), .ref mv, .ref mk, .int (nI nv), .int (nI nk), .int (nI sn), .ref ms, .ref ml, .ref mc, .int (nI 0), .ref mf, .ref mn])), (mv, .inl (jv, 100, .inl fv)), (mk, .inl (jk, 100, .inl fk)), (ms, .inl (js, 100, .inl gs)), (ml, .inl (jl, 100, .inl gl)), (mc, .inl (jc, 10201, .inl gc)), (mf, .inl (jf, 100, .inl gf)), (mn, .inl (jn, 100, .inl gn))]) [0, 1, 2, 3, 4, 5, 6, 7] (by decide) rfl
                have hKc := hK.sub (tys' := [(jv, .int), (jk, .int), (js, .int), (jl, .int), (jc, .boolean), (jf, .int), (jn, .int)]) [0, 1, 2, 3, 4, 5, 6] rfl
                have hFc := va_free (wc := [(mo, .inr (4, [.int (nI 0), .ref mv, .ref mk, .int (nI nv), .int (nI nk), .int (nI sn), .ref ms, .ref ml, .ref mc, .int (nI 0), .ref mf, .ref mn])), (mv, .inl (jv, 100, .inl fv)), (mk, .inl (jk, 100, .inl fk)), (ms, .inl (js, 100, .inl gs)), (ml, .inl (jl, 100, .inl gl)), (mc, .inl (jc, 10201, .inl gc)), (mf, .inl (jf, 100, .inl gf)), (mn, .inl (jn, 100, .inl gn))]) hD hS hA [0, 1, 2, 3, 4, 5, 6, 7] rfl
                refine va_calli (va_runV (As := [.int (cp)]) (rest := []) ⟨hx, hb, hml, hown, hw⟩ (m_con l dC dI H.size mo mv mk ms ml mc mf mn jv jk js jl jc jf jn fv fk gs gl gc gf gn nv nk sn (nI 0) hv hk hrk cp) (cwV 1 hw (gV mw311 mw313 mw12 mw20 mw314) rfl rfl rfl (by decide +kernel) ⟨Nat.le_of_ble_eq_true rfl, Nat.le_of_ble_eq_true rfl⟩) (wr.V (q0 := 0) (ci := 4) hN hKc hPc hDc rfl rfl) rfl rfl hl.1 rfl (lv_room (Nat.le_of_ble_eq_true rfl)) dX4_match_62 ⟨Nat.le_of_ble_eq_true rfl, Nat.le_of_ble_eq_true rfl⟩) hS (fun q _ h => hFc q h) hFc (fun r12 ur12 t H1 locs ht hvm hr12 hB hz1 hk1 hS => ?_)
                obtain ⟨s1, s2, n2⟩ := ur12
                obtain ⟨hs1, hmr, hz9⟩ := hr12
                dsimp only at hs1 hmr hz9
                obtain ⟨hP1, hD1⟩ := hB
                rw [ht] at hP1
                obtain ⟨hP, hD⟩ := va_join (wr := []) (w1 := [(mo, .inr (4, [.int (nI 0), .ref mv, .ref mk, .int (nI nv), .int (nI nk), .int (nI sn), .ref ms, .ref ml, .ref mc, .int (nI n2), .ref mf, .ref mn])), (mv, .inl (jv, 100, .inl fv)), (mk, .inl (jk, 100, .inl fk)), (ms, .inl (js, 100, .inl gs)), (ml, .inl (jl, 100, .inl gl)), (mc, .inl (jc, 10201, .inl gc)), (mf, .inl (jf, 100, .inl s1)), (mn, .inl (jn, 100, .inl s2))]) hP hD [0, 1, 2, 3, 4, 5, 6, 7] [] rfl rfl (by decide) (by decide) hk1 hFc hP1 hD1
                generalize H1 = H at hP hS ⊢
                have hP : va_P (dC, dI) cl5 [(mo, .inr (4, [.int (nI 0), .ref mv, .ref mk, .int (nI nv), .int (nI nk), .int (nI sn), .ref ms, .ref ml, .ref mc, .int (nI n2), .ref mf, .ref mn])), (mv, .inl (jv, 100, .inl fv)), (mk, .inl (jk, 100, .inl fk)), (ms, .inl (js, 100, .inl gs)), (ml, .inl (jl, 100, .inl gl)), (mc, .inl (jc, 10201, .inl gc)), (mf, .inl (jf, 100, .inl s1)), (mn, .inl (jn, 100, .inl s2))] H := hP.sub [0, 1, 2, 3, 4, 5, 6, 7] rfl
                have hD : va_D A [(mo, .inr (4, [.int (nI 0), .ref mv, .ref mk, .int (nI nv), .int (nI nk), .int (nI sn), .ref ms, .ref ml, .ref mc, .int (nI n2), .ref mf, .ref mn])), (mv, .inl (jv, 100, .inl fv)), (mk, .inl (jk, 100, .inl fk)), (ms, .inl (js, 100, .inl gs)), (ml, .inl (jl, 100, .inl gl)), (mc, .inl (jc, 10201, .inl gc)), (mf, .inl (jf, 100, .inl s1)), (mn, .inl (jn, 100, .inl s2))] := hD.sub [0, 1, 2, 3, 4, 5, 6, 7] (by decide) rfl
                refine lv_if_eq (tgt := 83) hx hb dX4_match_65 (by decide) (fun c65_12 => ?_) (fun c65_12 => ?_)
                · skip
                  have z5 := c65_12
                  refine lv_iconst (v := 0) hx hb dX4_match_83 (by decide) ?_
                  subst hQ
                  exact W.iret (v := 0) hx hb hr (fun t ht hW => ⟨⟨_, (gs, gl, sn, gc, s1, s2, n2), rfl, ⟨hs1, Or.inl ⟨zo, Or.inr ⟨rfl, (mres_mono hEq hmr).elim (fun h => absurd (h.1.symm.trans (by first | exact z5 | exact Decidable.not_not.mp z5)) (by decide)) (fun h => h.2), hz9 (by first | exact z5 | exact Decidable.not_not.mp z5)⟩⟩⟩, by rw [ht]; exact hP, hD⟩, hS.F ht⟩) hS.2.2 dX4_match_84
                · skip
                  have z5 := c65_12
                  refine lv_goto (tgt := 79) hx hb dX4_match_68 (by decide) ?_
                  refine lv_iconst (v := 1) hx hb dX4_match_79 (by decide) ?_
                  refine lv_goto (tgt := 84) hx hb dX4_match_80 (by decide) ?_
                  subst hQ
                  exact W.iret (v := 1) hx hb hr (fun t ht hW => ⟨⟨_, (gs, gl, sn, gc, s1, s2, n2), rfl, ⟨hs1, Or.inl ⟨zo, Or.inl ((mres_mono hEq hmr).elim (fun h => ⟨rfl, h.2⟩) (fun h => absurd h.1 z5))⟩⟩, by rw [ht]; exact hP, hD⟩, hS.F ht⟩) hS.2.2 dX4_match_84
            · skip
              have z2 : cp = 2 := (by first | exact c50_7 | exact Decidable.not_not.mp c50_7)
              refine lv_iconst (v := 0) hx hb dX4_match_53 (by decide) ?_
              subst hQ
              exact W.iret (v := 0) hx hb hr (fun t ht hW => ⟨⟨_, (gs, gl, sn, gc, gf, gn, 0), rfl, ⟨Nat.zero_le _, Or.inl ⟨zo, Or.inr ⟨rfl, sMat_c z0 z2, rfl⟩⟩⟩, by rw [ht]; exact hP, hD⟩, hS.F ht⟩) hS.2.2 dX4_match_54
          · skip
            have z0 : mm = 0 := (by first | exact c31_6 | exact Decidable.not_not.mp c31_6)
            refine lv_aload_n hx hb dX4_match_34 rfl (lv_at hl 0 rfl) ?_
            refine lv_iload_n hx hb dX4_match_35 rfl (lv_at hl 2 rfl) ?_
            refine vp_callSi (va_Run.run (va_runV (As := [.int (cp)]) (rest := []) ⟨hx, hb, hml, hown, hw⟩ (m_cmp l dC dI mo mv mk ms ml mc mf mn jv jk js jl jc jf jn fv fk gs gl gc gf gn nv nk sn 0 (nI 0) hv hk cp) (cwV 1 hw (gV mw294 mw296 mw10 mw20 mw297) rfl rfl rfl (by decide +kernel) ⟨Nat.le_of_ble_eq_true rfl, Nat.le_of_ble_eq_true rfl⟩) (ro.V (q0 := 0) (ci := 4) hN (hK.sub (tys' := [(jv, .int), (jk, .int), (js, .int), (jl, .int), (jc, .boolean), (jf, .int), (jn, .int)]) [0, 1, 2, 3, 4, 5, 6] rfl) (hP.sub (ws' := [(mo, .inr (4, [.int (nI 0), .ref mv, .ref mk, .int (nI nv), .int (nI nk), .int (nI sn), .ref ms, .ref ml, .ref mc, .int (nI 0), .ref mf, .ref mn])), (mv, .inl (jv, 100, .inl fv)), (mk, .inl (jk, 100, .inl fk)), (ms, .inl (js, 100, .inl gs)), (ml, .inl (jl, 100, .inl gl)), (mc, .inl (jc, 10201, .inl gc)), (mf, .inl (jf, 100, .inl gf)), (mn, .inl (jn, 100, .inl gn))]) [0, 1, 2, 3, 4, 5, 6, 7] rfl) rfl rfl) rfl rfl hl.1 rfl (lv_room (Nat.le_of_ble_eq_true rfl)) dX4_match_36 ⟨Nat.le_of_ble_eq_true rfl, Nat.le_of_ble_eq_true rfl⟩)) (fun r14 hr14 => ?_)
            subst hr14
            refine lv_if_ne (tgt := 46) hx hb dX4_match_39 (by decide) (fun c39_14 => ?_) (fun c39_14 => ?_)
            · skip
              have z1 : ¬ stF fv fk nv nk cp = 0 := c39_14
              refine lv_iconst (v := 0) hx hb dX4_match_46 (by decide) ?_
              subst hQ
              exact W.iret (v := 0) hx hb hr (fun t ht hW => ⟨⟨_, (gs, gl, sn, gc, gf, gn, 0), rfl, ⟨Nat.zero_le _, Or.inl ⟨zo, Or.inr ⟨rfl, fun L q => z1 ((sMat_0 z0 L).mpr q).1, rfl⟩⟩⟩, by rw [ht]; exact hP, hD⟩, hS.F ht⟩) hS.2.2 dX4_match_47
            · skip
              have z1 : stF fv fk nv nk cp = 0 := (by first | exact c39_14 | exact Decidable.not_not.mp c39_14)
              refine lv_iconst (v := 1) hx hb dX4_match_42 (by decide) ?_
              refine lv_goto (tgt := 47) hx hb dX4_match_43 (by decide) ?_
              subst hQ
              exact W.iret (v := 1) hx hb hr (fun t ht hW => ⟨⟨_, (gs, gl, sn, gc, gf, gn, 0), rfl, ⟨Nat.zero_le _, Or.inl ⟨zo, Or.inl ⟨rfl, [], (sMat_0 z0 []).mp ⟨z1, rfl⟩, spIs_0⟩⟩⟩, by rw [ht]; exact hP, hD⟩, hS.F ht⟩) hS.2.2 dX4_match_47
        · skip
          rw [ti_le, tc_2] at c20_4
          have zo : ¬ mOk mm cp := fun q => by have := q.2.2.2; omega
          refine lv_iconst (v := -1) hx hb dX4_match_23 (by decide) ?_
          subst hQ
          exact W.iret (v := (-1)) hx hb hr (fun t ht hW => ⟨⟨_, (gs, gl, sn, gc, gf, gn, ct), rfl, ⟨hct, Or.inr ⟨zo, rfl, rfl, rfl, rfl⟩⟩, by rw [ht]; exact hP, hD⟩, hS.F ht⟩) hS.2.2 dX4_match_24

abbrev rm_m_counts : Room := { frames := 1, cells := 0, slots := 0, locals := 22 }
set_option maxHeartbeats 4000000 in
set_option maxRecDepth 100000 in
theorem m_counts (l : Launch) (dC : Nat → ClassId) (dI : Nat → Nat → Nat) (sz : Nat) (mo mv mk ms ml mc mf mn : Nat) (jv jk js jl jc jf jn : ClassId) (fv fk gs gl gc gf gn : Nat → Int32) (nv nk sn ct : Nat) (th : Int32) (hv : nv ≤ 100) (hk : nk ≤ 100) (mn9 rl : Int32) : Met l yX4_counts (.code yX4_counts cX4_counts 7 (some (.boolean)) :: wsA) rm_m_counts (va_Pc [.ref mo, .int (mn9), .int (rl)] (wr (dC, dI) [(mo, .inr (4, [.int (th), .ref mv, .ref mk, .int (nI nv), .int (nI nk), .int (nI sn), .ref ms, .ref ml, .ref mc, .int (nI ct), .ref mf, .ref mn])), (mv, .inl (jv, 100, .inl fv)), (mk, .inl (jk, 100, .inl fk)), (ms, .inl (js, 100, .inl gs)), (ml, .inl (jl, 100, .inl gl)), (mc, .inl (jc, 10201, .inl gc)), (mf, .inl (jf, 100, .inl gf)), (mn, .inl (jn, 100, .inl gn))] [(jv, .int), (jk, .int), (js, .int), (jl, .int), (jc, .boolean), (jf, .int), (jn, .int)] sz)) (va_Qi (fun (r : Int32) (_ : Unit) => r = if cs mn9.toInt (kn fk nk) rl = true then 1 else 0) (wB (dC, dI) (va_A [(mo, .inr (4, [.int (th), .ref mv, .ref mk, .int (nI nv), .int (nI nk), .int (nI sn), .ref ms, .ref ml, .ref mc, .int (nI ct), .ref mf, .ref mn])), (mv, .inl (jv, 100, .inl fv)), (mk, .inl (jk, 100, .inl fk)), (ms, .inl (js, 100, .inl gs)), (ml, .inl (jl, 100, .inl gl)), (mc, .inl (jc, 10201, .inl gc)), (mf, .inl (jf, 100, .inl gf)), (mn, .inl (jn, 100, .inl gn))] sz) (fun _ : Unit => [(mo, .inr (4, [.int (nI 0), .ref mv, .ref mk, .int (nI nv), .int (nI nk), .int (nI sn), .ref ms, .ref ml, .ref mc, .int (nI ct), .ref mf, .ref mn])), (mv, .inl (jv, 100, .inl fv)), (mk, .inl (jk, 100, .inl fk)), (ms, .inl (js, 100, .inl gs)), (ml, .inl (jl, 100, .inl gl)), (mc, .inl (jc, 10201, .inl gc)), (mf, .inl (jf, 100, .inl gf)), (mn, .inl (jn, 100, .inl gn))])) (va_A [(mo, .inr (4, [.int (th), .ref mv, .ref mk, .int (nI nv), .int (nI nk), .int (nI sn), .ref ms, .ref ml, .ref mc, .int (nI ct), .ref mf, .ref mn])), (mv, .inl (jv, 100, .inl fv)), (mk, .inl (jk, 100, .inl fk)), (ms, .inl (js, 100, .inl gs)), (ml, .inl (jl, 100, .inl gl)), (mc, .inl (jc, 10201, .inl gc)), (mf, .inl (jf, 100, .inl gf)), (mn, .inl (jn, 100, .inl gn))] sz)) 0 0 (va_A [(mo, .inr (4, [.int (th), .ref mv, .ref mk, .int (nI nv), .int (nI nk), .int (nI sn), .ref ms, .ref ml, .ref mc, .int (nI ct), .ref mf, .ref mn])), (mv, .inl (jv, 100, .inl fv)), (mk, .inl (jk, 100, .inl fk)), (ms, .inl (js, 100, .inl gs)), (ml, .inl (jl, 100, .inl gl)), (mc, .inl (jc, 10201, .inl gc)), (mf, .inl (jf, 100, .inl gf)), (mn, .inl (jn, 100, .inl gn))] sz) := by
  refine Met.ofW (cc := cX4_counts) (maxL := 7) (ret := (some (.boolean))) (by decide) rfl ?_
  intro p e s m args below meth c s₁ B hml hv
  obtain ⟨hargs, hsz, hN, hP, hK, hD0⟩ := hv
  have hx := B.exec
  have hb := B.bytes
  have hr := B.returns
  have hw : ∀ w ∈ wsA, w.before args s = true := fun w h => atoms_spec (ws := (.code yX4_counts cX4_counts 7 (some (.boolean)) :: wsA)) B.pre w (List.mem_cons_of_mem _ h)
  have hown : s.vm.findClass "GlobDeskModel" = some m.cls := findClass_of_methodNamed B.named
  have hlocks := B.notSynchronized
  subst hsz
  have hD := hD0.self (sz := s.heap.size)
  generalize hAe : va_A [(mo, .inr (4, [.int (th), .ref mv, .ref mk, .int (nI nv), .int (nI nk), .int (nI sn), .ref ms, .ref ml, .ref mc, .int (nI ct), .ref mf, .ref mn])), (mv, .inl (jv, 100, .inl fv)), (mk, .inl (jk, 100, .inl fk)), (ms, .inl (js, 100, .inl gs)), (ml, .inl (jl, 100, .inl gl)), (mc, .inl (jc, 10201, .inl gc)), (mf, .inl (jf, 100, .inl gf)), (mn, .inl (jn, 100, .inl gn))] s.heap.size = A at hD ⊢
  have hA : ∀ q : Nat, s.heap.size ≤ q → A q := fun q h => by rw [← hAe]; exact Or.inr h
  have hS : va_S A s.heap s.heap [] := va_S.rf
  generalize hQ : MQ below _ args s _ _ _ = Q
  change W p l e rm_m_counts s m args below meth c s.heap [] 0 0 Q (entryFrame m args 7)
  have hl := lv_entry ([.ref mo, .int (mn9), .int (rl)]) (n := 7) (Nat.le_of_ble_eq_true rfl)
  rw [show entryFrame m args 7 = entryFrame m ([.ref mo, .int (mn9), .int (rl)] : List Value).toArray 7 from by rw [hargs], lg_entry_eq]
  generalize (lg_sl ([.ref mo, .int (mn9), .int (rl)]) ++ List.replicate (7 - (lg_sl ([.ref mo, .int (mn9), .int (rl)])).length) Slot.unset).toArray = ls at hl ⊢
  have hl : lv_has ls 7 [(0, .ref mo), (1, .int (mn9)), (2, .int (rl))] := hl
  have hdn := dg_le fk nk
  refine lv_aload_n hx hb dX4_counts_0 rfl (lv_at hl 0 rfl) ?_
  refine lv_iconst (v := 0) hx hb dX4_counts_1 (by decide) ?_
  refine lv_topi (fun x1 ex1 => ?_)
  obtain rfl : x1 = nI 0 := by rw [ex1]; exact nI_0.symm
  refine va_put (D := (dC, dI)) (ci := 4) (v := .int (nI 0)) (ty := .int) (C := RX4) (T := TX4) (N := 12) hx hb hw inX4 tyX4 tyX4_ok nmX4 hown hK hP hD hS 0 rfl rfl 0 (by decide) (hw _ mw244) (fun _ h9 => h9) rfl (by decide +kernel) rfl rfl (Nat.le_of_ble_eq_true rfl) dX4_counts_2 (fun H locs hP hD hS => ?_)
  have hP : va_P (dC, dI) cl5 [(mo, .inr (4, [.int (nI 0), .ref mv, .ref mk, .int (nI nv), .int (nI nk), .int (nI sn), .ref ms, .ref ml, .ref mc, .int (nI ct), .ref mf, .ref mn])), (mv, .inl (jv, 100, .inl fv)), (mk, .inl (jk, 100, .inl fk)), (ms, .inl (js, 100, .inl gs)), (ml, .inl (jl, 100, .inl gl)), (mc, .inl (jc, 10201, .inl gc)), (mf, .inl (jf, 100, .inl gf)), (mn, .inl (jn, 100, .inl gn))] H := hP
  have hD : va_D A [(mo, .inr (4, [.int (nI 0), .ref mv, .ref mk, .int (nI nv), .int (nI nk), .int (nI sn), .ref ms, .ref ml, .ref mc, .int (nI ct), .ref mf, .ref mn])), (mv, .inl (jv, 100, .inl fv)), (mk, .inl (jk, 100, .inl fk)), (ms, .inl (js, 100, .inl gs)), (ml, .inl (jl, 100, .inl gl)), (mc, .inl (jc, 10201, .inl gc)), (mf, .inl (jf, 100, .inl gf)), (mn, .inl (jn, 100, .inl gn))] := hD
  refine lv_iload_n hx hb dX4_counts_5 rfl (lv_at hl 1 rfl) ?_
  refine lv_if_lt (tgt := 18) hx hb dX4_counts_6 (by decide) (fun c6_1 => ?_) (fun c6_1 => ?_)
  · skip
    rw [ti_lt, tc_0] at c6_1
    have q9 : cs mn9.toInt (kn fk nk) rl = false := cs_neg (by omega)
    refine lv_iconst (v := 0) hx hb dX4_counts_18 (by decide) ?_
    subst hQ
    exact W.zret (v := 0) hx hb hr (by decide) (fun t ht hW => ⟨⟨_, (), rfl, by rw [q9]; rfl, by rw [ht]; exact hP, hD⟩, hS.F ht⟩) hS.2.2 dX4_counts_19
  · skip
    rw [ti_lt, tc_0] at c6_1
    have q0 : 0 ≤ mn9.toInt := by omega
    refine lv_iload_n hx hb dX4_counts_9 rfl (lv_at hl 2 rfl) ?_
    refine lv_if_lt (tgt := 18) hx hb dX4_counts_10 (by decide) (fun c10_2 => ?_) (fun c10_2 => ?_)
    · skip
      rw [ti_lt, tc_0] at c10_2
      have q9 : cs mn9.toInt (kn fk nk) rl = false := cs_out (fun q => by rw [q, tc_0] at c10_2; omega) (fun q => by rw [q, tc_1] at c10_2; omega) (fun q => by rw [q, tc_2] at c10_2; omega) (fun q => by rw [q, tc_3] at c10_2; omega) (fun q => by rw [q, tc_4] at c10_2; omega) (fun q => by rw [q, tc_5] at c10_2; omega)
      refine lv_iconst (v := 0) hx hb dX4_counts_18 (by decide) ?_
      subst hQ
      exact W.zret (v := 0) hx hb hr (by decide) (fun t ht hW => ⟨⟨_, (), rfl, by rw [q9]; rfl, by rw [ht]; exact hP, hD⟩, hS.F ht⟩) hS.2.2 dX4_counts_19
    · skip
      rw [ti_lt, tc_0] at c10_2
      refine lv_iload_n hx hb dX4_counts_13 rfl (lv_at hl 2 rfl) ?_
      refine lv_iconst (v := 5) hx hb dX4_counts_14 (by decide) ?_
      refine lv_icmp_le (tgt := 20) hx hb dX4_counts_15 (by decide) (fun c15_3 => ?_) (fun c15_3 => ?_)
      · skip
        rw [ti_le, tc_5] at c15_3
        refine lv_aload_n hx hb dX4_counts_20 rfl (lv_at hl 0 rfl) ?_
        refine va_get (D := (dC, dI)) (ci := 4) (v := .ref mk) (C := RX4) (T := TX4) (N := 12) hx hb hw inX4 hown hK hP 0 rfl rfl 2 (by decide) (hw _ mw246) (fun _ h9 => h9) rfl dX4_counts_21 ?_
        refine lv_aload_n hx hb dX4_counts_24 rfl (lv_at hl 0 rfl) ?_
        refine va_get (D := (dC, dI)) (ci := 4) (v := .int (nI nk)) (C := RX4) (T := TX4) (N := 12) hx hb hw inX4 hown hK hP 0 rfl rfl 4 (by decide) (hw _ mw248) (fun _ h9 => h9) rfl dX4_counts_25 ?_
        refine vp_callSi (va_Run.run (va_runS (As := [.ref mk, .int (nI nk)]) (rest := []) ⟨hx, hb, hml, hown, hw⟩ (m_digits l dC dI mk jk fk nk (by omega)) (cwS 2 hw (gS mw302 mw303 mw20 mw304) rfl rfl rfl (by decide +kernel) ⟨Nat.le_of_ble_eq_true rfl, Nat.le_of_ble_eq_true rfl⟩) (ro.S hN (hK.sub (tys' := [(jk, .int)]) [1] rfl) (hP.sub (ws' := [(mk, .inl (jk, 100, .inl fk))]) [2] rfl)) rfl rfl hl.1 rfl (lv_room (Nat.le_of_ble_eq_true rfl)) dX4_counts_28 ⟨Nat.le_of_ble_eq_true rfl, Nat.le_of_ble_eq_true rfl⟩)) (fun r5 hr5 => ?_)
        subst hr5
        refine lv_istore_n (lv' := [(3, .int (nI (dg fk nk))), (0, .ref mo), (1, .int (mn9)), (2, .int (rl))]) hx hb dX4_counts_31 rfl hl (by decide) rfl (fun ls hl => ?_)
        refine lv_iload_n hx hb dX4_counts_32 rfl (lv_at hl 0 rfl) ?_
        refine lv_if_ne (tgt := 42) hx hb dX4_counts_33 (by decide) (fun c33_5 => ?_) (fun c33_5 => ?_)
        · skip
          rw [ti_eq, nI_toInt (by omega), tc_0] at c33_5
          have q1 : ¬ dg fk nk = 0 := by omega
          refine lv_lconst (v := 0) hx hb dX4_counts_42 (by decide) ?_
          refine lv_topl (fun x7 ex7 => ?_)
          obtain rfl : x7 = lN 0 := by rw [ex7]; rfl
          refine lv_lstore (lv' := [(4, .long (lN 0)), (3, .int (nI (dg fk nk))), (0, .ref mo), (1, .int (mn9)), (2, .int (rl))]) hx hb dX4_counts_43 hl (by decide) rfl (fun ls hl => ?_)
          refine lv_iconst (v := 0) hx hb dX4_counts_45 (by decide) ?_
          refine lv_topi (fun x8 ex8 => ?_)
          obtain rfl : x8 = nI 0 := by rw [ex8]; exact nI_0.symm
          refine lv_istore (lv' := [(6, .int (nI 0)), (4, .long (lN 0)), (3, .int (nI (dg fk nk))), (0, .ref mo), (1, .int (mn9)), (2, .int (rl))]) hx hb dX4_counts_46 hl (by decide) rfl (fun ls hl => ?_)
          have loop48 : ∀ (nn48 : Nat) (i x : Nat) (hi : i ≤ dg fk nk) (hxx : x ≤ 30000000100) (e9 : mnA fk (dg fk nk - i) i x = mnN fk nk) (_ : dg fk nk - i < nn48) (ls : Array Slot) (_ : lv_has ls 7 [(0, .ref mo), (1, .int (mn9)), (2, .int (rl)), (3, .int (nI (dg fk nk))), (4, .long (lN x)), (6, .int (nI i))]), W p l e rm_m_counts s m args below meth c H locs 0 0 Q (F0 m 48 ls []) := by
            intro nn48
            induction nn48 with
            | zero => intro i x hi hxx e9 hm48 ls hl; exact absurd hm48 (Nat.not_lt_zero _)
            | succ nn48 ih48 =>
              intro i x hi hxx e9 hm48 ls hl
              refine lv_iload hx hb dX4_counts_48 (lv_at hl 5 rfl) ?_
              refine lv_iload_n hx hb dX4_counts_50 rfl (lv_at hl 3 rfl) ?_
              refine lv_icmp_ge (tgt := 95) hx hb dX4_counts_51 (by decide) (fun c51_8 => ?_) (fun c51_8 => ?_)
              · skip
                rw [ti_le, nI_toInt (by omega), nI_toInt (by omega)] at c51_8
                have e8 : i = dg fk nk := by omega
                have hcs : cs mn9.toInt (kn fk nk) rl = cs mn9.toInt x rl := cs_rel (i32_le _) (by have q := nrel_N fk nk; rw [← e9, e8, Nat.sub_self] at q; exact q)
                refine lv_iload_n hx hb dX4_counts_95 rfl (lv_at hl 2 rfl) ?_
                refine lv_if_ne (tgt := 113) hx hb dX4_counts_96 (by decide) (fun c96_9 => ?_) (fun c96_9 => ?_)
                · skip
                  have n0 : ¬ rl = 0 := c96_9
                  refine lv_iload_n hx hb dX4_counts_113 rfl (lv_at hl 2 rfl) ?_
                  refine lv_iconst (v := 1) hx hb dX4_counts_114 (by decide) ?_
                  refine lv_icmp_ne (tgt := 132) hx hb dX4_counts_115 (by decide) (fun c115_10 => ?_) (fun c115_10 => ?_)
                  · skip
                    have n1 : ¬ rl = 1 := c115_10
                    refine lv_iload_n hx hb dX4_counts_132 rfl (lv_at hl 2 rfl) ?_
                    refine lv_iconst (v := 2) hx hb dX4_counts_133 (by decide) ?_
                    refine lv_icmp_ne (tgt := 151) hx hb dX4_counts_134 (by decide) (fun c134_11 => ?_) (fun c134_11 => ?_)
                    · skip
                      have n2 : ¬ rl = 2 := c134_11
                      refine lv_iload_n hx hb dX4_counts_151 rfl (lv_at hl 2 rfl) ?_
                      refine lv_iconst (v := 3) hx hb dX4_counts_152 (by decide) ?_
                      refine lv_icmp_ne (tgt := 170) hx hb dX4_counts_153 (by decide) (fun c153_12 => ?_) (fun c153_12 => ?_)
                      · skip
                        have n3 : ¬ rl = 3 := c153_12
                        refine lv_iload_n hx hb dX4_counts_170 rfl (lv_at hl 2 rfl) ?_
                        refine lv_iconst (v := 4) hx hb dX4_counts_171 (by decide) ?_
                        refine lv_icmp_ne (tgt := 191) hx hb dX4_counts_172 (by decide) (fun c172_13 => ?_) (fun c172_13 => ?_)
                        · skip
                          have n4 : ¬ rl = 4 := c172_13
                          refine lv_iload_n hx hb dX4_counts_191 rfl (lv_at hl 1 rfl) ?_
                          refine lv_i2l hx hb dX4_counts_192 rfl ?_
                          refine lv_lload hx hb dX4_counts_193 (lv_at hl 4 rfl) ?_
                          refine W.lcmp hx hb dX4_counts_195 ?_
                          refine lv_if_eq (tgt := 203) hx hb dX4_counts_196 (by decide) (fun c196_14 => ?_) (fun c196_14 => ?_)
                          · skip
                            rw [lg_cmp_eq, tl_eq] at c196_14
                            rw [i64, pk_lT (by omega)] at c196_14
                            refine lv_iconst (v := 0) hx hb dX4_counts_203 (by decide) ?_
                            subst hQ
                            exact W.zret (v := 0) hx hb hr (by decide) (fun t ht hW => ⟨⟨_, (), rfl, by rw [hcs, show rl = 5 from (five32 (by omega) (by omega) n0 n1 n2 n3 n4), cs_5 q0]; exact bf0 (by omega), by rw [ht]; exact hP, hD⟩, hS.F ht⟩) hS.2.2 dX4_counts_204
                          · skip
                            rw [lg_cmp_eq, tl_eq] at c196_14
                            rw [i64, pk_lT (by omega)] at c196_14
                            refine lv_iconst (v := 1) hx hb dX4_counts_199 (by decide) ?_
                            refine lv_goto (tgt := 204) hx hb dX4_counts_200 (by decide) ?_
                            subst hQ
                            exact W.zret (v := 1) hx hb hr (by decide) (fun t ht hW => ⟨⟨_, (), rfl, by rw [hcs, show rl = 5 from (five32 (by omega) (by omega) n0 n1 n2 n3 n4), cs_5 q0]; exact bf1 (by omega), by rw [ht]; exact hP, hD⟩, hS.F ht⟩) hS.2.2 dX4_counts_204
                        · skip
                          have rk : rl = 4 := (by first | exact c172_13 | exact Decidable.not_not.mp c172_13)
                          refine lv_iload_n hx hb dX4_counts_175 rfl (lv_at hl 1 rfl) ?_
                          refine lv_i2l hx hb dX4_counts_176 rfl ?_
                          refine lv_lload hx hb dX4_counts_177 (lv_at hl 4 rfl) ?_
                          refine W.lcmp hx hb dX4_counts_179 ?_
                          refine lv_if_ne (tgt := 187) hx hb dX4_counts_180 (by decide) (fun c180_15 => ?_) (fun c180_15 => ?_)
                          · skip
                            rw [lg_cmp_eq, tl_eq] at c180_15
                            rw [i64, pk_lT (by omega)] at c180_15
                            refine lv_iconst (v := 0) hx hb dX4_counts_187 (by decide) ?_
                            refine lv_goto (tgt := 204) hx hb dX4_counts_188 (by decide) ?_
                            subst hQ
                            exact W.zret (v := 0) hx hb hr (by decide) (fun t ht hW => ⟨⟨_, (), rfl, by rw [hcs, rk, cs_4 q0]; exact bf0 (by omega), by rw [ht]; exact hP, hD⟩, hS.F ht⟩) hS.2.2 dX4_counts_204
                          · skip
                            rw [lg_cmp_eq, tl_eq] at c180_15
                            rw [i64, pk_lT (by omega)] at c180_15
                            refine lv_iconst (v := 1) hx hb dX4_counts_183 (by decide) ?_
                            refine lv_goto (tgt := 204) hx hb dX4_counts_184 (by decide) ?_
                            subst hQ
                            exact W.zret (v := 1) hx hb hr (by decide) (fun t ht hW => ⟨⟨_, (), rfl, by rw [hcs, rk, cs_4 q0]; exact bf1 (by omega), by rw [ht]; exact hP, hD⟩, hS.F ht⟩) hS.2.2 dX4_counts_204
                      · skip
                        have rk : rl = 3 := (by first | exact c153_12 | exact Decidable.not_not.mp c153_12)
                        refine lv_iload_n hx hb dX4_counts_156 rfl (lv_at hl 1 rfl) ?_
                        refine lv_i2l hx hb dX4_counts_157 rfl ?_
                        refine lv_lload hx hb dX4_counts_158 (lv_at hl 4 rfl) ?_
                        refine W.lcmp hx hb dX4_counts_160 ?_
                        refine lv_if_gt (tgt := 168) hx hb dX4_counts_161 (by decide) (fun c161_16 => ?_) (fun c161_16 => ?_)
                        · skip
                          rw [lg_cmp_gt, tl_lt] at c161_16
                          rw [i64, pk_lT (by omega)] at c161_16
                          refine lv_iconst (v := 0) hx hb dX4_counts_168 (by decide) ?_
                          subst hQ
                          exact W.zret (v := 0) hx hb hr (by decide) (fun t ht hW => ⟨⟨_, (), rfl, by rw [hcs, rk, cs_3 q0]; exact bf0 (by omega), by rw [ht]; exact hP, hD⟩, hS.F ht⟩) hS.2.2 dX4_counts_169
                        · skip
                          rw [lg_cmp_gt, tl_lt] at c161_16
                          rw [i64, pk_lT (by omega)] at c161_16
                          refine lv_iconst (v := 1) hx hb dX4_counts_164 (by decide) ?_
                          refine lv_goto (tgt := 169) hx hb dX4_counts_165 (by decide) ?_
                          subst hQ
                          exact W.zret (v := 1) hx hb hr (by decide) (fun t ht hW => ⟨⟨_, (), rfl, by rw [hcs, rk, cs_3 q0]; exact bf1 (by omega), by rw [ht]; exact hP, hD⟩, hS.F ht⟩) hS.2.2 dX4_counts_169
                    · skip
                      have rk : rl = 2 := (by first | exact c134_11 | exact Decidable.not_not.mp c134_11)
                      refine lv_iload_n hx hb dX4_counts_137 rfl (lv_at hl 1 rfl) ?_
                      refine lv_i2l hx hb dX4_counts_138 rfl ?_
                      refine lv_lload hx hb dX4_counts_139 (lv_at hl 4 rfl) ?_
                      refine W.lcmp hx hb dX4_counts_141 ?_
                      refine lv_if_ge (tgt := 149) hx hb dX4_counts_142 (by decide) (fun c142_17 => ?_) (fun c142_17 => ?_)
                      · skip
                        rw [lg_cmp_ge, tl_le] at c142_17
                        rw [i64, pk_lT (by omega)] at c142_17
                        refine lv_iconst (v := 0) hx hb dX4_counts_149 (by decide) ?_
                        subst hQ
                        exact W.zret (v := 0) hx hb hr (by decide) (fun t ht hW => ⟨⟨_, (), rfl, by rw [hcs, rk, cs_2 q0]; exact bf0 (by omega), by rw [ht]; exact hP, hD⟩, hS.F ht⟩) hS.2.2 dX4_counts_150
                      · skip
                        rw [lg_cmp_ge, tl_le] at c142_17
                        rw [i64, pk_lT (by omega)] at c142_17
                        refine lv_iconst (v := 1) hx hb dX4_counts_145 (by decide) ?_
                        refine lv_goto (tgt := 150) hx hb dX4_counts_146 (by decide) ?_
                        subst hQ
                        exact W.zret (v := 1) hx hb hr (by decide) (fun t ht hW => ⟨⟨_, (), rfl, by rw [hcs, rk, cs_2 q0]; exact bf1 (by omega), by rw [ht]; exact hP, hD⟩, hS.F ht⟩) hS.2.2 dX4_counts_150
                  · skip
                    have rk : rl = 1 := (by first | exact c115_10 | exact Decidable.not_not.mp c115_10)
                    refine lv_iload_n hx hb dX4_counts_118 rfl (lv_at hl 1 rfl) ?_
                    refine lv_i2l hx hb dX4_counts_119 rfl ?_
                    refine lv_lload hx hb dX4_counts_120 (lv_at hl 4 rfl) ?_
                    refine W.lcmp hx hb dX4_counts_122 ?_
                    refine lv_if_lt (tgt := 130) hx hb dX4_counts_123 (by decide) (fun c123_18 => ?_) (fun c123_18 => ?_)
                    · skip
                      rw [lg_cmp_lt, tl_lt] at c123_18
                      rw [i64, pk_lT (by omega)] at c123_18
                      refine lv_iconst (v := 0) hx hb dX4_counts_130 (by decide) ?_
                      subst hQ
                      exact W.zret (v := 0) hx hb hr (by decide) (fun t ht hW => ⟨⟨_, (), rfl, by rw [hcs, rk, cs_1 q0]; exact bf0 (by omega), by rw [ht]; exact hP, hD⟩, hS.F ht⟩) hS.2.2 dX4_counts_131
                    · skip
                      rw [lg_cmp_lt, tl_lt] at c123_18
                      rw [i64, pk_lT (by omega)] at c123_18
                      refine lv_iconst (v := 1) hx hb dX4_counts_126 (by decide) ?_
                      refine lv_goto (tgt := 131) hx hb dX4_counts_127 (by decide) ?_
                      subst hQ
                      exact W.zret (v := 1) hx hb hr (by decide) (fun t ht hW => ⟨⟨_, (), rfl, by rw [hcs, rk, cs_1 q0]; exact bf1 (by omega), by rw [ht]; exact hP, hD⟩, hS.F ht⟩) hS.2.2 dX4_counts_131
                · skip
                  have rk : rl = 0 := (by first | exact c96_9 | exact Decidable.not_not.mp c96_9)
                  refine lv_iload_n hx hb dX4_counts_99 rfl (lv_at hl 1 rfl) ?_
                  refine lv_i2l hx hb dX4_counts_100 rfl ?_
                  refine lv_lload hx hb dX4_counts_101 (lv_at hl 4 rfl) ?_
                  refine W.lcmp hx hb dX4_counts_103 ?_
                  refine lv_if_le (tgt := 111) hx hb dX4_counts_104 (by decide) (fun c104_19 => ?_) (fun c104_19 => ?_)
                  · skip
                    rw [lg_cmp_le, tl_le] at c104_19
                    rw [i64, pk_lT (by omega)] at c104_19
                    refine lv_iconst (v := 0) hx hb dX4_counts_111 (by decide) ?_
                    subst hQ
                    exact W.zret (v := 0) hx hb hr (by decide) (fun t ht hW => ⟨⟨_, (), rfl, by rw [hcs, rk, cs_0 q0]; exact bf0 (by omega), by rw [ht]; exact hP, hD⟩, hS.F ht⟩) hS.2.2 dX4_counts_112
                  · skip
                    rw [lg_cmp_le, tl_le] at c104_19
                    rw [i64, pk_lT (by omega)] at c104_19
                    refine lv_iconst (v := 1) hx hb dX4_counts_107 (by decide) ?_
                    refine lv_goto (tgt := 112) hx hb dX4_counts_108 (by decide) ?_
                    subst hQ
                    exact W.zret (v := 1) hx hb hr (by decide) (fun t ht hW => ⟨⟨_, (), rfl, by rw [hcs, rk, cs_0 q0]; exact bf1 (by omega), by rw [ht]; exact hP, hD⟩, hS.F ht⟩) hS.2.2 dX4_counts_112
              · skip
                rw [ti_le, nI_toInt (by omega), nI_toInt (by omega)] at c51_8
                have d1 : dgb (fk i) = true := cnt_in (fun j => dgb (fk j)) nk 0 i (Nat.zero_le _) (by unfold dg at *; omega)
                refine lv_lload hx hb dX4_counts_54 (lv_at hl 4 rfl) ?_
                refine lv_ldc2 (v := 3000000000) hx hb hown (hw _ mw340) dX4_counts_56 ?_
                refine W.lcmp hx hb dX4_counts_59 ?_
                refine lv_if_le (tgt := 68) hx hb dX4_counts_60 (by decide) (fun c60_20 => ?_) (fun c60_20 => ?_)
                · skip
                  rw [lg_cmp_le, tl_le] at c60_20
                  rw [pk_lT (by omega), tl_3] at c60_20
                  have hx3 : x ≤ 3000000000 := by omega
                  have hif : (if 3000000000 < x then x else 10 * x + ((fk i).toInt.toNat - 48)) = 10 * x + ((fk i).toInt.toNat - 48) := if_neg (by omega)
                  have d2 := of_decide_eq_true d1
                  refine lv_ldc2 (v := 10) hx hb hown (hw _ mw341) dX4_counts_68 ?_
                  refine lv_lload hx hb dX4_counts_71 (lv_at hl 4 rfl) ?_
                  refine lv_lmul hx hb dX4_counts_73 ?_
                  refine lv_aload_n hx hb dX4_counts_74 rfl (lv_at hl 0 rfl) ?_
                  refine va_get (D := (dC, dI)) (ci := 4) (v := .ref mk) (C := RX4) (T := TX4) (N := 12) hx hb hw inX4 hown hK hP 0 rfl rfl 2 (by decide) (hw _ mw246) (fun _ h9 => h9) rfl dX4_counts_75 ?_
                  refine lv_iload hx hb dX4_counts_78 (lv_at hl 5 rfl) ?_
                  refine va_iald hx hb hK hP 2 1 rfl rfl (i := (nI i)) (vp_in_nI (by omega) (by omega)) dX4_counts_80 ?_
                  refine lv_topi (fun x22 ex22 => ?_)
                  obtain rfl : x22 = fk i := by rw [ex22, nI_clamp (by omega)]
                  refine lv_i2l hx hb dX4_counts_81 rfl ?_
                  refine lv_ladd hx hb dX4_counts_82 ?_
                  refine lv_ldc2 (v := 48) hx hb hown (hw _ mw342) dX4_counts_83 ?_
                  refine lv_lsub hx hb dX4_counts_86 ?_
                  refine lv_topl (fun x23 ex23 => ?_)
                  obtain rfl : x23 = lN (10 * x + ((fk i).toInt.toNat - 48)) := by rw [ex23]; exact mnS d1 hx3
                  refine lv_lstore (lv' := [(4, .long (lN (10 * x + ((fk i).toInt.toNat - 48)))), (0, .ref mo), (1, .int (mn9)), (2, .int (rl)), (3, .int (nI (dg fk nk))), (6, .int (nI i))]) hx hb dX4_counts_87 hl (by decide) rfl (fun ls hl => ?_)
                  refine lv_iinc (v := nI (i + 1)) (lv' := [(6, .int (nI (i + 1))), (4, .long (lN (10 * x + ((fk i).toInt.toNat - 48)))), (0, .ref mo), (1, .int (mn9)), (2, .int (rl)), (3, .int (nI (dg fk nk)))]) hx hb dX4_counts_89 hl (k := 5) rfl (nI_inc i) (by decide) rfl (fun ls hl => ?_)
                  refine lv_goto (tgt := 48) hx hb dX4_counts_92 (by decide) ?_
                  exact ih48 (i + 1) (10 * x + ((fk i).toInt.toNat - 48)) (by omega) (by omega) (by rw [← e9, mnA_next (r := dg fk nk - i) (by omega), hif]; rfl) (by omega) ls (lv_sub hl [2, 3, 4, 5, 1, 0] rfl)
                · skip
                  rw [lg_cmp_le, tl_le] at c60_20
                  rw [pk_lT (by omega), tl_3] at c60_20
                  have hif : (if 3000000000 < x then x else 10 * x + ((fk i).toInt.toNat - 48)) = x := if_pos (by omega)
                  refine lv_lload hx hb dX4_counts_63 (lv_at hl 4 rfl) ?_
                  refine lv_goto (tgt := 87) hx hb dX4_counts_65 (by decide) ?_
                  refine lv_lstore (lv' := [(4, .long (lN x)), (0, .ref mo), (1, .int (mn9)), (2, .int (rl)), (3, .int (nI (dg fk nk))), (6, .int (nI i))]) hx hb dX4_counts_87 hl (by decide) rfl (fun ls hl => ?_)
                  refine lv_iinc (v := nI (i + 1)) (lv' := [(6, .int (nI (i + 1))), (4, .long (lN x)), (0, .ref mo), (1, .int (mn9)), (2, .int (rl)), (3, .int (nI (dg fk nk)))]) hx hb dX4_counts_89 hl (k := 5) rfl (nI_inc i) (by decide) rfl (fun ls hl => ?_)
                  refine lv_goto (tgt := 48) hx hb dX4_counts_92 (by decide) ?_
                  exact ih48 (i + 1) x (by omega) (by omega) (by rw [← e9, mnA_next (r := dg fk nk - i) (by omega), hif]; rfl) (by omega) ls (lv_sub hl [2, 3, 4, 5, 1, 0] rfl)
          exact loop48 (dg fk nk + 1) 0 0 (Nat.zero_le _) (by omega) (by unfold mnN; rw [if_neg q1]; rfl) (by omega) ls (lv_sub hl [3, 4, 5, 2, 1, 0] rfl)
        · skip
          rw [ti_eq, nI_toInt (by omega), tc_0] at c33_5
          have q1 : dg fk nk = 0 := by omega
          refine lv_ldc2 (v := 4000000000) hx hb hown (hw _ mw339) dX4_counts_36 ?_
          refine lv_topl (fun x24 ex24 => ?_)
          obtain rfl : x24 = lN 4000000000 := by rw [ex24]; rfl
          refine lv_goto (tgt := 43) hx hb dX4_counts_39 (by decide) ?_
          refine lv_lstore (lv' := [(4, .long (lN 4000000000)), (3, .int (nI (dg fk nk))), (0, .ref mo), (1, .int (mn9)), (2, .int (rl))]) hx hb dX4_counts_43 hl (by decide) rfl (fun ls hl => ?_)
          refine lv_iconst (v := 0) hx hb dX4_counts_45 (by decide) ?_
          refine lv_topi (fun x25 ex25 => ?_)
          obtain rfl : x25 = nI 0 := by rw [ex25]; exact nI_0.symm
          refine lv_istore (lv' := [(6, .int (nI 0)), (4, .long (lN 4000000000)), (3, .int (nI (dg fk nk))), (0, .ref mo), (1, .int (mn9)), (2, .int (rl))]) hx hb dX4_counts_46 hl (by decide) rfl (fun ls hl => ?_)
          have loop48 : ∀ (nn48 : Nat) (i x : Nat) (hi : i ≤ dg fk nk) (hxx : x ≤ 30000000100) (e9 : mnA fk (dg fk nk - i) i x = mnN fk nk) (_ : dg fk nk - i < nn48) (ls : Array Slot) (_ : lv_has ls 7 [(0, .ref mo), (1, .int (mn9)), (2, .int (rl)), (3, .int (nI (dg fk nk))), (4, .long (lN x)), (6, .int (nI i))]), W p l e rm_m_counts s m args below meth c H locs 0 0 Q (F0 m 48 ls []) := by
            intro nn48
            induction nn48 with
            | zero => intro i x hi hxx e9 hm48 ls hl; exact absurd hm48 (Nat.not_lt_zero _)
            | succ nn48 ih48 =>
              intro i x hi hxx e9 hm48 ls hl
              refine lv_iload hx hb dX4_counts_48 (lv_at hl 5 rfl) ?_
              refine lv_iload_n hx hb dX4_counts_50 rfl (lv_at hl 3 rfl) ?_
              refine lv_icmp_ge (tgt := 95) hx hb dX4_counts_51 (by decide) (fun c51_25 => ?_) (fun c51_25 => ?_)
              · skip
                rw [ti_le, nI_toInt (by omega), nI_toInt (by omega)] at c51_25
                have e8 : i = dg fk nk := by omega
                have hcs : cs mn9.toInt (kn fk nk) rl = cs mn9.toInt x rl := cs_rel (i32_le _) (by have q := nrel_N fk nk; rw [← e9, e8, Nat.sub_self] at q; exact q)
                refine lv_iload_n hx hb dX4_counts_95 rfl (lv_at hl 2 rfl) ?_
                refine lv_if_ne (tgt := 113) hx hb dX4_counts_96 (by decide) (fun c96_26 => ?_) (fun c96_26 => ?_)
                · skip
                  have n0 : ¬ rl = 0 := c96_26
                  refine lv_iload_n hx hb dX4_counts_113 rfl (lv_at hl 2 rfl) ?_
                  refine lv_iconst (v := 1) hx hb dX4_counts_114 (by decide) ?_
                  refine lv_icmp_ne (tgt := 132) hx hb dX4_counts_115 (by decide) (fun c115_27 => ?_) (fun c115_27 => ?_)
                  · skip
                    have n1 : ¬ rl = 1 := c115_27
                    refine lv_iload_n hx hb dX4_counts_132 rfl (lv_at hl 2 rfl) ?_
                    refine lv_iconst (v := 2) hx hb dX4_counts_133 (by decide) ?_
                    refine lv_icmp_ne (tgt := 151) hx hb dX4_counts_134 (by decide) (fun c134_28 => ?_) (fun c134_28 => ?_)
                    · skip
                      have n2 : ¬ rl = 2 := c134_28
                      refine lv_iload_n hx hb dX4_counts_151 rfl (lv_at hl 2 rfl) ?_
                      refine lv_iconst (v := 3) hx hb dX4_counts_152 (by decide) ?_
                      refine lv_icmp_ne (tgt := 170) hx hb dX4_counts_153 (by decide) (fun c153_29 => ?_) (fun c153_29 => ?_)
                      · skip
                        have n3 : ¬ rl = 3 := c153_29
                        refine lv_iload_n hx hb dX4_counts_170 rfl (lv_at hl 2 rfl) ?_
                        refine lv_iconst (v := 4) hx hb dX4_counts_171 (by decide) ?_
                        refine lv_icmp_ne (tgt := 191) hx hb dX4_counts_172 (by decide) (fun c172_30 => ?_) (fun c172_30 => ?_)
                        · skip
                          have n4 : ¬ rl = 4 := c172_30
                          refine lv_iload_n hx hb dX4_counts_191 rfl (lv_at hl 1 rfl) ?_
                          refine lv_i2l hx hb dX4_counts_192 rfl ?_
                          refine lv_lload hx hb dX4_counts_193 (lv_at hl 4 rfl) ?_
                          refine W.lcmp hx hb dX4_counts_195 ?_
                          refine lv_if_eq (tgt := 203) hx hb dX4_counts_196 (by decide) (fun c196_31 => ?_) (fun c196_31 => ?_)
                          · skip
                            rw [lg_cmp_eq, tl_eq] at c196_31
                            rw [i64, pk_lT (by omega)] at c196_31
                            refine lv_iconst (v := 0) hx hb dX4_counts_203 (by decide) ?_
                            subst hQ
                            exact W.zret (v := 0) hx hb hr (by decide) (fun t ht hW => ⟨⟨_, (), rfl, by rw [hcs, show rl = 5 from (five32 (by omega) (by omega) n0 n1 n2 n3 n4), cs_5 q0]; exact bf0 (by omega), by rw [ht]; exact hP, hD⟩, hS.F ht⟩) hS.2.2 dX4_counts_204
                          · skip
                            rw [lg_cmp_eq, tl_eq] at c196_31
                            rw [i64, pk_lT (by omega)] at c196_31
                            refine lv_iconst (v := 1) hx hb dX4_counts_199 (by decide) ?_
                            refine lv_goto (tgt := 204) hx hb dX4_counts_200 (by decide) ?_
                            subst hQ
                            exact W.zret (v := 1) hx hb hr (by decide) (fun t ht hW => ⟨⟨_, (), rfl, by rw [hcs, show rl = 5 from (five32 (by omega) (by omega) n0 n1 n2 n3 n4), cs_5 q0]; exact bf1 (by omega), by rw [ht]; exact hP, hD⟩, hS.F ht⟩) hS.2.2 dX4_counts_204
                        · skip
                          have rk : rl = 4 := (by first | exact c172_30 | exact Decidable.not_not.mp c172_30)
                          refine lv_iload_n hx hb dX4_counts_175 rfl (lv_at hl 1 rfl) ?_
                          refine lv_i2l hx hb dX4_counts_176 rfl ?_
                          refine lv_lload hx hb dX4_counts_177 (lv_at hl 4 rfl) ?_
                          refine W.lcmp hx hb dX4_counts_179 ?_
                          refine lv_if_ne (tgt := 187) hx hb dX4_counts_180 (by decide) (fun c180_32 => ?_) (fun c180_32 => ?_)
                          · skip
                            rw [lg_cmp_eq, tl_eq] at c180_32
                            rw [i64, pk_lT (by omega)] at c180_32
                            refine lv_iconst (v := 0) hx hb dX4_counts_187 (by decide) ?_
                            refine lv_goto (tgt := 204) hx hb dX4_counts_188 (by decide) ?_
                            subst hQ
                            exact W.zret (v := 0) hx hb hr (by decide) (fun t ht hW => ⟨⟨_, (), rfl, by rw [hcs, rk, cs_4 q0]; exact bf0 (by omega), by rw [ht]; exact hP, hD⟩, hS.F ht⟩) hS.2.2 dX4_counts_204
                          · skip
                            rw [lg_cmp_eq, tl_eq] at c180_32
                            rw [i64, pk_lT (by omega)] at c180_32
                            refine lv_iconst (v := 1) hx hb dX4_counts_183 (by decide) ?_
                            refine lv_goto (tgt := 204) hx hb dX4_counts_184 (by decide) ?_
                            subst hQ
                            exact W.zret (v := 1) hx hb hr (by decide) (fun t ht hW => ⟨⟨_, (), rfl, by rw [hcs, rk, cs_4 q0]; exact bf1 (by omega), by rw [ht]; exact hP, hD⟩, hS.F ht⟩) hS.2.2 dX4_counts_204
                      · skip
                        have rk : rl = 3 := (by first | exact c153_29 | exact Decidable.not_not.mp c153_29)
                        refine lv_iload_n hx hb dX4_counts_156 rfl (lv_at hl 1 rfl) ?_
                        refine lv_i2l hx hb dX4_counts_157 rfl ?_
                        refine lv_lload hx hb dX4_counts_158 (lv_at hl 4 rfl) ?_
                        refine W.lcmp hx hb dX4_counts_160 ?_
                        refine lv_if_gt (tgt := 168) hx hb dX4_counts_161 (by decide) (fun c161_33 => ?_) (fun c161_33 => ?_)
                        · skip
                          rw [lg_cmp_gt, tl_lt] at c161_33
                          rw [i64, pk_lT (by omega)] at c161_33
                          refine lv_iconst (v := 0) hx hb dX4_counts_168 (by decide) ?_
                          subst hQ
                          exact W.zret (v := 0) hx hb hr (by decide) (fun t ht hW => ⟨⟨_, (), rfl, by rw [hcs, rk, cs_3 q0]; exact bf0 (by omega), by rw [ht]; exact hP, hD⟩, hS.F ht⟩) hS.2.2 dX4_counts_169
                        · skip
                          rw [lg_cmp_gt, tl_lt] at c161_33
                          rw [i64, pk_lT (by omega)] at c161_33
                          refine lv_iconst (v := 1) hx hb dX4_counts_164 (by decide) ?_
                          refine lv_goto (tgt := 169) hx hb dX4_counts_165 (by decide) ?_
                          subst hQ
                          exact W.zret (v := 1) hx hb hr (by decide) (fun t ht hW => ⟨⟨_, (), rfl, by rw [hcs, rk, cs_3 q0]; exact bf1 (by omega), by rw [ht]; exact hP, hD⟩, hS.F ht⟩) hS.2.2 dX4_counts_169
                    · skip
                      have rk : rl = 2 := (by first | exact c134_28 | exact Decidable.not_not.mp c134_28)
                      refine lv_iload_n hx hb dX4_counts_137 rfl (lv_at hl 1 rfl) ?_
                      refine lv_i2l hx hb dX4_counts_138 rfl ?_
                      refine lv_lload hx hb dX4_counts_139 (lv_at hl 4 rfl) ?_
                      refine W.lcmp hx hb dX4_counts_141 ?_
                      refine lv_if_ge (tgt := 149) hx hb dX4_counts_142 (by decide) (fun c142_34 => ?_) (fun c142_34 => ?_)
                      · skip
                        rw [lg_cmp_ge, tl_le] at c142_34
                        rw [i64, pk_lT (by omega)] at c142_34
                        refine lv_iconst (v := 0) hx hb dX4_counts_149 (by decide) ?_
                        subst hQ
                        exact W.zret (v := 0) hx hb hr (by decide) (fun t ht hW => ⟨⟨_, (), rfl, by rw [hcs, rk, cs_2 q0]; exact bf0 (by omega), by rw [ht]; exact hP, hD⟩, hS.F ht⟩) hS.2.2 dX4_counts_150
                      · skip
                        rw [lg_cmp_ge, tl_le] at c142_34
                        rw [i64, pk_lT (by omega)] at c142_34
                        refine lv_iconst (v := 1) hx hb dX4_counts_145 (by decide) ?_
                        refine lv_goto (tgt := 150) hx hb dX4_counts_146 (by decide) ?_
                        subst hQ
                        exact W.zret (v := 1) hx hb hr (by decide) (fun t ht hW => ⟨⟨_, (), rfl, by rw [hcs, rk, cs_2 q0]; exact bf1 (by omega), by rw [ht]; exact hP, hD⟩, hS.F ht⟩) hS.2.2 dX4_counts_150
                  · skip
                    have rk : rl = 1 := (by first | exact c115_27 | exact Decidable.not_not.mp c115_27)
                    refine lv_iload_n hx hb dX4_counts_118 rfl (lv_at hl 1 rfl) ?_
                    refine lv_i2l hx hb dX4_counts_119 rfl ?_
                    refine lv_lload hx hb dX4_counts_120 (lv_at hl 4 rfl) ?_
                    refine W.lcmp hx hb dX4_counts_122 ?_
                    refine lv_if_lt (tgt := 130) hx hb dX4_counts_123 (by decide) (fun c123_35 => ?_) (fun c123_35 => ?_)
                    · skip
                      rw [lg_cmp_lt, tl_lt] at c123_35
                      rw [i64, pk_lT (by omega)] at c123_35
                      refine lv_iconst (v := 0) hx hb dX4_counts_130 (by decide) ?_
                      subst hQ
                      exact W.zret (v := 0) hx hb hr (by decide) (fun t ht hW => ⟨⟨_, (), rfl, by rw [hcs, rk, cs_1 q0]; exact bf0 (by omega), by rw [ht]; exact hP, hD⟩, hS.F ht⟩) hS.2.2 dX4_counts_131
                    · skip
                      rw [lg_cmp_lt, tl_lt] at c123_35
                      rw [i64, pk_lT (by omega)] at c123_35
                      refine lv_iconst (v := 1) hx hb dX4_counts_126 (by decide) ?_
                      refine lv_goto (tgt := 131) hx hb dX4_counts_127 (by decide) ?_
                      subst hQ
                      exact W.zret (v := 1) hx hb hr (by decide) (fun t ht hW => ⟨⟨_, (), rfl, by rw [hcs, rk, cs_1 q0]; exact bf1 (by omega), by rw [ht]; exact hP, hD⟩, hS.F ht⟩) hS.2.2 dX4_counts_131
                · skip
                  have rk : rl = 0 := (by first | exact c96_26 | exact Decidable.not_not.mp c96_26)
                  refine lv_iload_n hx hb dX4_counts_99 rfl (lv_at hl 1 rfl) ?_
                  refine lv_i2l hx hb dX4_counts_100 rfl ?_
                  refine lv_lload hx hb dX4_counts_101 (lv_at hl 4 rfl) ?_
                  refine W.lcmp hx hb dX4_counts_103 ?_
                  refine lv_if_le (tgt := 111) hx hb dX4_counts_104 (by decide) (fun c104_36 => ?_) (fun c104_36 => ?_)
                  · skip
                    rw [lg_cmp_le, tl_le] at c104_36
                    rw [i64, pk_lT (by omega)] at c104_36
                    refine lv_iconst (v := 0) hx hb dX4_counts_111 (by decide) ?_
                    subst hQ
                    exact W.zret (v := 0) hx hb hr (by decide) (fun t ht hW => ⟨⟨_, (), rfl, by rw [hcs, rk, cs_0 q0]; exact bf0 (by omega), by rw [ht]; exact hP, hD⟩, hS.F ht⟩) hS.2.2 dX4_counts_112
                  · skip
                    rw [lg_cmp_le, tl_le] at c104_36
                    rw [i64, pk_lT (by omega)] at c104_36
                    refine lv_iconst (v := 1) hx hb dX4_counts_107 (by decide) ?_
                    refine lv_goto (tgt := 112) hx hb dX4_counts_108 (by decide) ?_
                    subst hQ
                    exact W.zret (v := 1) hx hb hr (by decide) (fun t ht hW => ⟨⟨_, (), rfl, by rw [hcs, rk, cs_0 q0]; exact bf1 (by omega), by rw [ht]; exact hP, hD⟩, hS.F ht⟩) hS.2.2 dX4_counts_112
              · skip
                rw [ti_le, nI_toInt (by omega), nI_toInt (by omega)] at c51_25
                have d1 : dgb (fk i) = true := cnt_in (fun j => dgb (fk j)) nk 0 i (Nat.zero_le _) (by unfold dg at *; omega)
                refine lv_lload hx hb dX4_counts_54 (lv_at hl 4 rfl) ?_
                refine lv_ldc2 (v := 3000000000) hx hb hown (hw _ mw340) dX4_counts_56 ?_
                refine W.lcmp hx hb dX4_counts_59 ?_
                refine lv_if_le (tgt := 68) hx hb dX4_counts_60 (by decide) (fun c60_37 => ?_) (fun c60_37 => ?_)
                · skip
                  rw [lg_cmp_le, tl_le] at c60_37
                  rw [pk_lT (by omega), tl_3] at c60_37
                  have hx3 : x ≤ 3000000000 := by omega
                  have hif : (if 3000000000 < x then x else 10 * x + ((fk i).toInt.toNat - 48)) = 10 * x + ((fk i).toInt.toNat - 48) := if_neg (by omega)
                  have d2 := of_decide_eq_true d1
                  refine lv_ldc2 (v := 10) hx hb hown (hw _ mw341) dX4_counts_68 ?_
                  refine lv_lload hx hb dX4_counts_71 (lv_at hl 4 rfl) ?_
                  refine lv_lmul hx hb dX4_counts_73 ?_
                  refine lv_aload_n hx hb dX4_counts_74 rfl (lv_at hl 0 rfl) ?_
                  refine va_get (D := (dC, dI)) (ci := 4) (v := .ref mk) (C := RX4) (T := TX4) (N := 12) hx hb hw inX4 hown hK hP 0 rfl rfl 2 (by decide) (hw _ mw246) (fun _ h9 => h9) rfl dX4_counts_75 ?_
                  refine lv_iload hx hb dX4_counts_78 (lv_at hl 5 rfl) ?_
                  refine va_iald hx hb hK hP 2 1 rfl rfl (i := (nI i)) (vp_in_nI (by omega) (by omega)) dX4_counts_80 ?_
                  refine lv_topi (fun x39 ex39 => ?_)
                  obtain rfl : x39 = fk i := by rw [ex39, nI_clamp (by omega)]
                  refine lv_i2l hx hb dX4_counts_81 rfl ?_
                  refine lv_ladd hx hb dX4_counts_82 ?_
                  refine lv_ldc2 (v := 48) hx hb hown (hw _ mw342) dX4_counts_83 ?_
                  refine lv_lsub hx hb dX4_counts_86 ?_
                  refine lv_topl (fun x40 ex40 => ?_)
                  obtain rfl : x40 = lN (10 * x + ((fk i).toInt.toNat - 48)) := by rw [ex40]; exact mnS d1 hx3
                  refine lv_lstore (lv' := [(4, .long (lN (10 * x + ((fk i).toInt.toNat - 48)))), (0, .ref mo), (1, .int (mn9)), (2, .int (rl)), (3, .int (nI (dg fk nk))), (6, .int (nI i))]) hx hb dX4_counts_87 hl (by decide) rfl (fun ls hl => ?_)
                  refine lv_iinc (v := nI (i + 1)) (lv' := [(6, .int (nI (i + 1))), (4, .long (lN (10 * x + ((fk i).toInt.toNat - 48)))), (0, .ref mo), (1, .int (mn9)), (2, .int (rl)), (3, .int (nI (dg fk nk)))]) hx hb dX4_counts_89 hl (k := 5) rfl (nI_inc i) (by decide) rfl (fun ls hl => ?_)
                  refine lv_goto (tgt := 48) hx hb dX4_counts_92 (by decide) ?_
                  exact ih48 (i + 1) (10 * x + ((fk i).toInt.toNat - 48)) (by omega) (by omega) (by rw [← e9, mnA_next (r := dg fk nk - i) (by omega), hif]; rfl) (by omega) ls (lv_sub hl [2, 3, 4, 5, 1, 0] rfl)
                · skip
                  rw [lg_cmp_le, tl_le] at c60_37
                  rw [pk_lT (by omega), tl_3] at c60_37
                  have hif : (if 3000000000 < x then x else 10 * x + ((fk i).toInt.toNat - 48)) = x := if_pos (by omega)
                  refine lv_lload hx hb dX4_counts_63 (lv_at hl 4 rfl) ?_
                  refine lv_goto (tgt := 87) hx hb dX4_counts_65 (by decide) ?_
                  refine lv_lstore (lv' := [(4, .long (lN x)), (0, .ref mo), (1, .int (mn9)), (2, .int (rl)), (3, .int (nI (dg fk nk))), (6, .int (nI i))]) hx hb dX4_counts_87 hl (by decide) rfl (fun ls hl => ?_)
                  refine lv_iinc (v := nI (i + 1)) (lv' := [(6, .int (nI (i + 1))), (4, .long (lN x)), (0, .ref mo), (1, .int (mn9)), (2, .int (rl)), (3, .int (nI (dg fk nk)))]) hx hb dX4_counts_89 hl (k := 5) rfl (nI_inc i) (by decide) rfl (fun ls hl => ?_)
                  refine lv_goto (tgt := 48) hx hb dX4_counts_92 (by decide) ?_
                  exact ih48 (i + 1) x (by omega) (by omega) (by rw [← e9, mnA_next (r := dg fk nk - i) (by omega), hif]; rfl) (by omega) ls (lv_sub hl [2, 3, 4, 5, 1, 0] rfl)
          exact loop48 (dg fk nk + 1) 0 4000000000 (Nat.zero_le _) (by omega) (by rw [q1]; unfold mnN; rw [if_pos q1]; rfl) (by omega) ls (lv_sub hl [3, 4, 5, 2, 1, 0] rfl)
      · skip
        rw [ti_le, tc_5] at c15_3
        have q9 : cs mn9.toInt (kn fk nk) rl = false := cs_out (fun q => by rw [q, tc_0] at c15_3; omega) (fun q => by rw [q, tc_1] at c15_3; omega) (fun q => by rw [q, tc_2] at c15_3; omega) (fun q => by rw [q, tc_3] at c15_3; omega) (fun q => by rw [q, tc_4] at c15_3; omega) (fun q => by rw [q, tc_5] at c15_3; omega)
        refine lv_iconst (v := 0) hx hb dX4_counts_18 (by decide) ?_
        subst hQ
        exact W.zret (v := 0) hx hb hr (by decide) (fun t ht hW => ⟨⟨_, (), rfl, by rw [q9]; rfl, by rw [ht]; exact hP, hD⟩, hS.F ht⟩) hS.2.2 dX4_counts_19
