abbrev rm_c_Row_append : Room := { frames := 0, cells := 0, slots := 0, locals := 0 }
set_option maxHeartbeats 4000000 in
set_option maxRecDepth 100000 in
theorem c_Row_append (l : Launch) (dC : Nat → ClassId) (dI : Nat → Nat → Nat) (sz : Nat) (h0 q : Nat) (k : ClassId) (f : Nat → Int32) (n : Nat) (hn : n ≤ 100) (v : Int64) (ct : Int32) : Met l yX1_append (.code yX1_append cX1_append 5 (some (.boolean)) :: wsA) rm_c_Row_append (va_Pc [.ref h0, .long (v), .int (ct)] (wr (dC, dI) [(h0, .inr (1, [.ref q, .int (nI n)])), (q, .inl (k, 100, .inl f))] [(k, .int)] sz)) (va_Qi (fun (r : Int32) (u : (Nat → Int32) × Nat) => r = apR n ct ∧ u = apF f n v ct) (wB (dC, dI) (va_A [(h0, .inr (1, [.ref q, .int (nI n)])), (q, .inl (k, 100, .inl f))] sz) (fun u : (Nat → Int32) × Nat => [(h0, .inr (1, [.ref q, .int (nI u.2)])), (q, .inl (k, 100, .inl (u.1)))])) (va_A [(h0, .inr (1, [.ref q, .int (nI n)])), (q, .inl (k, 100, .inl f))] sz)) 0 0 (va_A [(h0, .inr (1, [.ref q, .int (nI n)])), (q, .inl (k, 100, .inl f))] sz) := by
  refine Met.ofW (cc := cX1_append) (maxL := 5) (ret := (some (.boolean))) (by decide) rfl ?_
  intro p e s m args below meth c s₁ B hml hv
  obtain ⟨hargs, hsz, hN, hP, hK, hD0⟩ := hv
  have hx := B.exec
  have hb := B.bytes
  have hr := B.returns
  have hw : ∀ w ∈ wsA, w.before args s = true := fun w h => atoms_spec (ws := (.code yX1_append cX1_append 5 (some (.boolean)) :: wsA)) B.pre w (List.mem_cons_of_mem _ h)
  have hown : s.vm.findClass "GlobDesk$Row" = some m.cls := findClass_of_methodNamed B.named
  have hlocks := B.notSynchronized
  subst hsz
  have hD := hD0.self (sz := s.heap.size)
  generalize hAe : va_A [(h0, .inr (1, [.ref q, .int (nI n)])), (q, .inl (k, 100, .inl f))] s.heap.size = A at hD ⊢
  have hA : ∀ q : Nat, s.heap.size ≤ q → A q := fun q h => by rw [← hAe]; exact Or.inr h
  have hS : va_S A s.heap s.heap [] := va_S.rf
  generalize hQ : MQ below _ args s _ _ _ = Q
  change W p l e rm_c_Row_append s m args below meth c s.heap [] 0 0 Q (entryFrame m args 5)
  have hl := lv_entry ([.ref h0, .long (v), .int (ct)]) (n := 5) (Nat.le_of_ble_eq_true rfl)
  rw [show entryFrame m args 5 = entryFrame m ([.ref h0, .long (v), .int (ct)] : List Value).toArray 5 from by rw [hargs], lg_entry_eq]
  generalize (lg_sl ([.ref h0, .long (v), .int (ct)]) ++ List.replicate (5 - (lg_sl ([.ref h0, .long (v), .int (ct)])).length) Slot.unset).toArray = ls at hl ⊢
  have hl : lv_has ls 5 [(0, .ref h0), (1, .long (v)), (3, .int (ct))] := hl
  refine lv_iload_n hx hb dX1_append_0 rfl (lv_at hl 2 rfl) ?_
  refine lv_iconst (v := 1) hx hb dX1_append_1 (by decide) ?_
  refine lv_icmp_lt (tgt := 25) hx hb dX1_append_2 (by decide) (fun c2_0 => ?_) (fun c2_0 => ?_)
  · skip
    rw [ti_lt, tc_1] at c2_0
    have q0 : ¬ (1 ≤ ct.toInt ∧ ct.toInt ≤ 8 ∧ ct.toInt + n ≤ 100) := by omega
    refine lv_iconst (v := 0) hx hb dX1_append_25 (by decide) ?_
    subst hQ
    exact W.zret (v := 0) hx hb hr (by decide) (fun t ht hW => ⟨⟨_, (f, n), rfl, ⟨(if_neg q0).symm, (if_neg q0).symm⟩, by rw [ht]; exact hP, hD⟩, hS.F ht⟩) hS.2.2 dX1_append_26
  · skip
    rw [ti_lt, tc_1] at c2_0
    refine lv_iload_n hx hb dX1_append_5 rfl (lv_at hl 2 rfl) ?_
    refine lv_bipush (v := 8) hx hb dX1_append_6 (by decide) ?_
    refine lv_icmp_gt (tgt := 25) hx hb dX1_append_8 (by decide) (fun c8_1 => ?_) (fun c8_1 => ?_)
    · skip
      rw [ti_lt, tc_8] at c8_1
      have q0 : ¬ (1 ≤ ct.toInt ∧ ct.toInt ≤ 8 ∧ ct.toInt + n ≤ 100) := by omega
      refine lv_iconst (v := 0) hx hb dX1_append_25 (by decide) ?_
      subst hQ
      exact W.zret (v := 0) hx hb hr (by decide) (fun t ht hW => ⟨⟨_, (f, n), rfl, ⟨(if_neg q0).symm, (if_neg q0).symm⟩, by rw [ht]; exact hP, hD⟩, hS.F ht⟩) hS.2.2 dX1_append_26
    · skip
      rw [ti_lt, tc_8] at c8_1
      refine lv_iload_n hx hb dX1_append_11 rfl (lv_at hl 2 rfl) ?_
      refine lv_aload_n hx hb dX1_append_12 rfl (lv_at hl 0 rfl) ?_
      refine va_get (D := (dC, dI)) (ci := 1) (v := .ref q) (C := RX1) (T := TX1) (N := 2) hx hb hw inX1 hown hK hP 0 rfl rfl 0 (by decide) (hw _ mw36) (fun _ h9 => h9) rfl dX1_append_13 ?_
      refine va_alen (v := 100) hx hb hK hP 1 0 rfl rfl rfl dX1_append_16 ?_
      refine lv_aload_n hx hb dX1_append_17 rfl (lv_at hl 0 rfl) ?_
      refine va_get (D := (dC, dI)) (ci := 1) (v := .int (nI n)) (C := RX1) (T := TX1) (N := 2) hx hb hw inX1 hown hK hP 0 rfl rfl 1 (by decide) (hw _ mw37) (fun _ h9 => h9) rfl dX1_append_18 ?_
      refine lv_isub hx hb dX1_append_21 ?_
      refine lv_topi (fun x3 ex3 => ?_)
      obtain rfl : x3 = nI (100 - n) := by rw [ex3]; exact pk_sub hn
      refine lv_icmp_le (tgt := 27) hx hb dX1_append_22 (by decide) (fun c22_3 => ?_) (fun c22_3 => ?_)
      · skip
        rw [ti_le, nI_toInt (by omega)] at c22_3
        have q0 : 1 ≤ ct.toInt ∧ ct.toInt ≤ 8 ∧ ct.toInt + n ≤ 100 := by omega
        refine lv_iload_n hx hb dX1_append_27 rfl (lv_at hl 2 rfl) ?_
        refine lv_iconst (v := 1) hx hb dX1_append_28 (by decide) ?_
        refine lv_isub hx hb dX1_append_29 ?_
        refine lv_topi (fun x5 ex5 => ?_)
        obtain rfl : x5 = (nI ct.toInt.toNat) - (1) := by rw [ex5]; exact congrArg (fun z : Int32 => z - 1) (Int32.toInt_inj.mp (by rw [nI_toInt (by omega)]; omega))
        refine lv_istore (lv' := [(4, .int ((nI ct.toInt.toNat) - (1))), (0, .ref h0), (1, .long (v)), (3, .int (ct))]) hx hb dX1_append_30 hl (by decide) rfl (fun ls hl => ?_)
        have loop32 : ∀ (nn32 : Nat) (i n1 : Nat) (f1 : Nat → Int32) (hi : n1 + i = n + ct.toInt.toNat) (hn1 : n ≤ n1) (e9 : apA v i f1 n1 = apA v ct.toInt.toNat f n) (_ : i < nn32) (H : Heap) (locs : List Loc) (_ : va_P (dC, dI) cl5 [(h0, .inr (1, [.ref q, .int (nI n1)])), (q, .inl (k, 100, .inl f1))] H) (_ : va_D A [(h0, .inr (1, [.ref q, .int (nI n1)])), (q, .inl (k, 100, .inl f1))]) (_ : va_S A s.heap H locs) (ls : Array Slot) (_ : lv_has ls 5 [(0, .ref h0), (1, .long (v)), (4, .int ((nI i) - (1)))]), W p l e rm_c_Row_append s m args below meth c H locs 0 0 Q (F0 m 32 ls []) := by
          intro nn32
          induction nn32 with
          | zero => intro i n1 f1 hi hn1 e9 hm32 H locs hP hD hS ls hl; exact absurd hm32 (Nat.not_lt_zero _)
          | succ nn32 ih32 =>
            intro i n1 f1 hi hn1 e9 hm32 H locs hP hD hS ls hl
            refine lv_iload hx hb dX1_append_32 (lv_at hl 2 rfl) ?_
            refine lv_if_lt (tgt := 74) hx hb dX1_append_34 (by decide) (fun c34_5 => ?_) (fun c34_5 => ?_)
            · skip
              have e8 := nI_m1_neg (by omega) c34_5
              refine lv_iconst (v := 1) hx hb dX1_append_74 (by decide) ?_
              subst hQ
              exact W.zret (v := 1) hx hb hr (by decide) (fun t ht hW => ⟨⟨_, (f1, n1), rfl, ⟨(if_pos q0).symm, by unfold apF; rw [if_pos q0, ← e9, e8, show n1 = n + ct.toInt.toNat from by omega]; rfl⟩, by rw [ht]; exact hP, hD⟩, hS.F ht⟩) hS.2.2 dX1_append_75
            · skip
              obtain ⟨j, rfl⟩ := nI_m1_pos c34_5
              rw [nI_pred] at hl
              refine lv_aload_n hx hb dX1_append_37 rfl (lv_at hl 0 rfl) ?_
              refine va_get (D := (dC, dI)) (ci := 1) (v := .ref q) (C := RX1) (T := TX1) (N := 2) hx hb hw inX1 hown hK hP 0 rfl rfl 0 (by decide) (hw _ mw36) (fun _ h9 => h9) rfl dX1_append_38 ?_
              refine lv_aload_n hx hb dX1_append_41 rfl (lv_at hl 0 rfl) ?_
              refine va_get (D := (dC, dI)) (ci := 1) (v := .int (nI n1)) (C := RX1) (T := TX1) (N := 2) hx hb hw inX1 hown hK hP 0 rfl rfl 1 (by decide) (hw _ mw37) (fun _ h9 => h9) rfl dX1_append_42 ?_
              refine lv_lload_n hx hb dX1_append_45 rfl (lv_at hl 1 rfl) ?_
              refine lv_bipush (v := 8) hx hb dX1_append_46 (by decide) ?_
              refine lv_iload hx hb dX1_append_48 (lv_at hl 2 rfl) ?_
              refine lv_imul hx hb dX1_append_50 ?_
              refine lv_lushr hx hb dX1_append_51 rfl ?_
              refine lv_l2i hx hb dX1_append_52 rfl ?_
              refine lv_sipush (v := 255) hx hb dX1_append_53 (by decide) ?_
              refine lv_iand hx hb dX1_append_56 ?_
              refine lv_topi (fun x7 ex7 => ?_)
              obtain rfl : x7 = btv v j := by rw [ex7]; rfl
              refine va_iast hx hb hK hP hD hS 1 0 rfl rfl (i := (nI n1)) (vp_in_nI (by omega) (by omega)) dX1_append_57 (fun H locs hP hD hS => ?_)
              rw [nI_clamp (show n1 < 2 ^ 31 by omega)] at hP hD
              have hP : va_P (dC, dI) cl5 [(h0, .inr (1, [.ref q, .int (nI n1)])), (q, .inl (k, 100, .inl (upd f1 n1 (btv v j))))] H := hP
              have hD : va_D A [(h0, .inr (1, [.ref q, .int (nI n1)])), (q, .inl (k, 100, .inl (upd f1 n1 (btv v j))))] := hD
              refine lv_aload_n hx hb dX1_append_58 rfl (lv_at hl 0 rfl) ?_
              refine lv_dup hx hb dX1_append_59 rfl ?_
              refine va_get (D := (dC, dI)) (ci := 1) (v := .int (nI n1)) (C := RX1) (T := TX1) (N := 2) hx hb hw inX1 hown hK hP 0 rfl rfl 1 (by decide) (hw _ mw37) (fun _ h9 => h9) rfl dX1_append_60 ?_
              refine lv_iconst (v := 1) hx hb dX1_append_63 (by decide) ?_
              refine lv_iadd hx hb dX1_append_64 ?_
              refine lv_topi (fun x8 ex8 => ?_)
              obtain rfl : x8 = nI (n1 + 1) := by rw [ex8]; exact nI_1 n1
              refine va_put (D := (dC, dI)) (ci := 1) (v := .int (nI (n1 + 1))) (ty := .int) (C := RX1) (T := TX1) (N := 2) hx hb hw inX1 tyX1 tyX1_ok nmX1 hown hK hP hD hS 0 rfl rfl 1 (by decide) (hw _ mw37) (fun _ h9 => h9) rfl (by decide +kernel) rfl rfl (Nat.le_of_ble_eq_true rfl) dX1_append_65 (fun H locs hP hD hS => ?_)
              have hP : va_P (dC, dI) cl5 [(h0, .inr (1, [.ref q, .int (nI (n1 + 1))])), (q, .inl (k, 100, .inl (upd f1 n1 (btv v j))))] H := hP
              have hD : va_D A [(h0, .inr (1, [.ref q, .int (nI (n1 + 1))])), (q, .inl (k, 100, .inl (upd f1 n1 (btv v j))))] := hD
              refine lv_iinc (v := (nI j) - (1)) (lv' := [(4, .int ((nI j) - (1))), (0, .ref h0), (1, .long (v))]) hx hb dX1_append_68 hl (k := 2) rfl (nI_dec j) (by decide) rfl (fun ls hl => ?_)
              refine lv_goto (tgt := 32) hx hb dX1_append_71 (by decide) ?_
              exact ih32 j (n1 + 1) (upd f1 n1 (btv v j)) (by omega) (by omega) e9 (by omega) H locs hP hD hS ls (lv_sub hl [1, 2, 0] rfl)
        exact loop32 (ct.toInt.toNat + 1) ct.toInt.toNat n f rfl (Nat.le_refl _) rfl (by omega) s.heap [] hP hD hS ls (lv_sub hl [1, 2, 0] rfl)
      · skip
        rw [ti_le, nI_toInt (by omega)] at c22_3
        have q0 : ¬ (1 ≤ ct.toInt ∧ ct.toInt ≤ 8 ∧ ct.toInt + n ≤ 100) := by omega
        refine lv_iconst (v := 0) hx hb dX1_append_25 (by decide) ?_
        subst hQ
        exact W.zret (v := 0) hx hb hr (by decide) (fun t ht hW => ⟨⟨_, (f, n), rfl, ⟨(if_neg q0).symm, (if_neg q0).symm⟩, by rw [ht]; exact hP, hD⟩, hS.F ht⟩) hS.2.2 dX1_append_26

abbrev rm_c_Pat_append : Room := { frames := 0, cells := 0, slots := 0, locals := 0 }
set_option maxHeartbeats 4000000 in
set_option maxRecDepth 100000 in
theorem c_Pat_append (l : Launch) (dC : Nat → ClassId) (dI : Nat → Nat → Nat) (sz : Nat) (h0 q : Nat) (k : ClassId) (f : Nat → Int32) (n : Nat) (hn : n < 100) (x : Int32) : Met l yX0_append (.code yX0_append cX0_append 2 none :: wsA) rm_c_Pat_append (va_Pc [.ref h0, .int (x)] (wr (dC, dI) [(h0, .inr (0, [.ref q, .int (nI n)])), (q, .inl (k, 100, .inl f))] [(k, .int)] sz)) (va_Qv (fun (u : (Nat → Int32) × Nat) => u = (upd f n x, n + 1)) (wB (dC, dI) (va_A [(h0, .inr (0, [.ref q, .int (nI n)])), (q, .inl (k, 100, .inl f))] sz) (fun u : (Nat → Int32) × Nat => [(h0, .inr (0, [.ref q, .int (nI u.2)])), (q, .inl (k, 100, .inl (u.1)))])) (va_A [(h0, .inr (0, [.ref q, .int (nI n)])), (q, .inl (k, 100, .inl f))] sz)) 0 0 (va_A [(h0, .inr (0, [.ref q, .int (nI n)])), (q, .inl (k, 100, .inl f))] sz) := by
  refine Met.ofW (cc := cX0_append) (maxL := 2) (ret := none) (by decide) rfl ?_
  intro p e s m args below meth c s₁ B hml hv
  obtain ⟨hargs, hsz, hN, hP, hK, hD0⟩ := hv
  have hx := B.exec
  have hb := B.bytes
  have hr := B.returns
  have hw : ∀ w ∈ wsA, w.before args s = true := fun w h => atoms_spec (ws := (.code yX0_append cX0_append 2 none :: wsA)) B.pre w (List.mem_cons_of_mem _ h)
  have hown : s.vm.findClass "GlobDesk$Pattern" = some m.cls := findClass_of_methodNamed B.named
  have hlocks := B.notSynchronized
  subst hsz
  have hD := hD0.self (sz := s.heap.size)
  generalize hAe : va_A [(h0, .inr (0, [.ref q, .int (nI n)])), (q, .inl (k, 100, .inl f))] s.heap.size = A at hD ⊢
  have hA : ∀ q : Nat, s.heap.size ≤ q → A q := fun q h => by rw [← hAe]; exact Or.inr h
  have hS : va_S A s.heap s.heap [] := va_S.rf
  generalize hQ : MQ below _ args s _ _ _ = Q
  change W p l e rm_c_Pat_append s m args below meth c s.heap [] 0 0 Q (entryFrame m args 2)
  have hl := lv_entry ([.ref h0, .int (x)]) (n := 2) (Nat.le_of_ble_eq_true rfl)
  rw [show entryFrame m args 2 = entryFrame m ([.ref h0, .int (x)] : List Value).toArray 2 from by rw [hargs], lg_entry_eq]
  generalize (lg_sl ([.ref h0, .int (x)]) ++ List.replicate (2 - (lg_sl ([.ref h0, .int (x)])).length) Slot.unset).toArray = ls at hl ⊢
  have hl : lv_has ls 2 [(0, .ref h0), (1, .int (x))] := hl
  refine lv_aload_n hx hb dX0_append_0 rfl (lv_at hl 0 rfl) ?_
  refine va_get (D := (dC, dI)) (ci := 0) (v := .int (nI n)) (C := RX0) (T := TX0) (N := 2) hx hb hw inX0 hown hK hP 0 rfl rfl 1 (by decide) (hw _ mw53) (fun _ h9 => h9) rfl dX0_append_1 ?_
  refine lv_aload_n hx hb dX0_append_4 rfl (lv_at hl 0 rfl) ?_
  refine va_get (D := (dC, dI)) (ci := 0) (v := .ref q) (C := RX0) (T := TX0) (N := 2) hx hb hw inX0 hown hK hP 0 rfl rfl 0 (by decide) (hw _ mw52) (fun _ h9 => h9) rfl dX0_append_5 ?_
  refine va_alen (v := 100) hx hb hK hP 1 0 rfl rfl rfl dX0_append_8 ?_
  refine lv_icmp_ge (tgt := 32) hx hb dX0_append_9 (by decide) (fun c9_0 => ?_) (fun c9_0 => ?_)
  · skip
    exact absurd c9_0 (by rw [ti_le, nI_toInt (by omega), tc_100]; omega)
  · skip
    refine lv_aload_n hx hb dX0_append_12 rfl (lv_at hl 0 rfl) ?_
    refine va_get (D := (dC, dI)) (ci := 0) (v := .ref q) (C := RX0) (T := TX0) (N := 2) hx hb hw inX0 hown hK hP 0 rfl rfl 0 (by decide) (hw _ mw52) (fun _ h9 => h9) rfl dX0_append_13 ?_
    refine lv_aload_n hx hb dX0_append_16 rfl (lv_at hl 0 rfl) ?_
    refine va_get (D := (dC, dI)) (ci := 0) (v := .int (nI n)) (C := RX0) (T := TX0) (N := 2) hx hb hw inX0 hown hK hP 0 rfl rfl 1 (by decide) (hw _ mw53) (fun _ h9 => h9) rfl dX0_append_17 ?_
    refine lv_iload_n hx hb dX0_append_20 rfl (lv_at hl 1 rfl) ?_
    refine va_iast hx hb hK hP hD hS 1 0 rfl rfl (i := (nI n)) (vp_in_nI (by omega) (by omega)) dX0_append_21 (fun H locs hP hD hS => ?_)
    rw [nI_clamp (show n < 2 ^ 31 by omega)] at hP hD
    have hP : va_P (dC, dI) cl5 [(h0, .inr (0, [.ref q, .int (nI n)])), (q, .inl (k, 100, .inl (upd f n (x))))] H := hP
    have hD : va_D A [(h0, .inr (0, [.ref q, .int (nI n)])), (q, .inl (k, 100, .inl (upd f n (x))))] := hD
    refine lv_aload_n hx hb dX0_append_22 rfl (lv_at hl 0 rfl) ?_
    refine lv_dup hx hb dX0_append_23 rfl ?_
    refine va_get (D := (dC, dI)) (ci := 0) (v := .int (nI n)) (C := RX0) (T := TX0) (N := 2) hx hb hw inX0 hown hK hP 0 rfl rfl 1 (by decide) (hw _ mw53) (fun _ h9 => h9) rfl dX0_append_24 ?_
    refine lv_iconst (v := 1) hx hb dX0_append_27 (by decide) ?_
    refine lv_iadd hx hb dX0_append_28 ?_
    refine lv_topi (fun x2 ex2 => ?_)
    obtain rfl : x2 = nI (n + 1) := by rw [ex2]; exact nI_1 n
    refine va_put (D := (dC, dI)) (ci := 0) (v := .int (nI (n + 1))) (ty := .int) (C := RX0) (T := TX0) (N := 2) hx hb hw inX0 tyX0 tyX0_ok nmX0 hown hK hP hD hS 0 rfl rfl 1 (by decide) (hw _ mw53) (fun _ h9 => h9) rfl (by decide +kernel) rfl rfl (Nat.le_of_ble_eq_true rfl) dX0_append_29 (fun H locs hP hD hS => ?_)
    have hP : va_P (dC, dI) cl5 [(h0, .inr (0, [.ref q, .int (nI (n + 1))])), (q, .inl (k, 100, .inl (upd f n (x))))] H := hP
    have hD : va_D A [(h0, .inr (0, [.ref q, .int (nI (n + 1))])), (q, .inl (k, 100, .inl (upd f n (x))))] := hD
    subst hQ
    exact W.vret hx hb hr (fun t ht hW => ⟨⟨(upd f n x, n + 1), rfl, rfl, by rw [ht]; exact hP, hD⟩, hS.F ht⟩) hS.2.2 dX0_append_32

abbrev rm_c_Sp_append : Room := { frames := 0, cells := 0, slots := 0, locals := 0 }
set_option maxHeartbeats 4000000 in
set_option maxRecDepth 100000 in
theorem c_Sp_append (l : Launch) (dC : Nat → ClassId) (dI : Nat → Nat → Nat) (sz : Nat) (h0 q1 q2 : Nat) (k1 k2 : ClassId) (f g : Nat → Int32) (n : Nat) (hn : n < 100) (x y : Int32) : Met l yX2_append (.code yX2_append cX2_append 3 none :: wsA) rm_c_Sp_append (va_Pc [.ref h0, .int (x), .int (y)] (wr (dC, dI) [(h0, .inr (2, [.ref q1, .ref q2, .int (nI n)])), (q1, .inl (k1, 100, .inl f)), (q2, .inl (k2, 100, .inl g))] [(k1, .int), (k2, .int)] sz)) (va_Qv (fun (u : (Nat → Int32) × (Nat → Int32) × Nat) => u = (upd f n x, upd g n y, n + 1)) (wB (dC, dI) (va_A [(h0, .inr (2, [.ref q1, .ref q2, .int (nI n)])), (q1, .inl (k1, 100, .inl f)), (q2, .inl (k2, 100, .inl g))] sz) (fun u : (Nat → Int32) × (Nat → Int32) × Nat => [(h0, .inr (2, [.ref q1, .ref q2, .int (nI u.2.2)])), (q1, .inl (k1, 100, .inl (u.1))), (q2, .inl (k2, 100, .inl (u.2.1)))])) (va_A [(h0, .inr (2, [.ref q1, .ref q2, .int (nI n)])), (q1, .inl (k1, 100, .inl f)), (q2, .inl (k2, 100, .inl g))] sz)) 0 0 (va_A [(h0, .inr (2, [.ref q1, .ref q2, .int (nI n)])), (q1, .inl (k1, 100, .inl f)), (q2, .inl (k2, 100, .inl g))] sz) := by
  refine Met.ofW (cc := cX2_append) (maxL := 3) (ret := none) (by decide) rfl ?_
  intro p e s m args below meth c s₁ B hml hv
  obtain ⟨hargs, hsz, hN, hP, hK, hD0⟩ := hv
  have hx := B.exec
  have hb := B.bytes
  have hr := B.returns
  have hw : ∀ w ∈ wsA, w.before args s = true := fun w h => atoms_spec (ws := (.code yX2_append cX2_append 3 none :: wsA)) B.pre w (List.mem_cons_of_mem _ h)
  have hown : s.vm.findClass "GlobDesk$Spans" = some m.cls := findClass_of_methodNamed B.named
  have hlocks := B.notSynchronized
  subst hsz
  have hD := hD0.self (sz := s.heap.size)
  generalize hAe : va_A [(h0, .inr (2, [.ref q1, .ref q2, .int (nI n)])), (q1, .inl (k1, 100, .inl f)), (q2, .inl (k2, 100, .inl g))] s.heap.size = A at hD ⊢
  have hA : ∀ q : Nat, s.heap.size ≤ q → A q := fun q h => by rw [← hAe]; exact Or.inr h
  have hS : va_S A s.heap s.heap [] := va_S.rf
  generalize hQ : MQ below _ args s _ _ _ = Q
  change W p l e rm_c_Sp_append s m args below meth c s.heap [] 0 0 Q (entryFrame m args 3)
  have hl := lv_entry ([.ref h0, .int (x), .int (y)]) (n := 3) (Nat.le_of_ble_eq_true rfl)
  rw [show entryFrame m args 3 = entryFrame m ([.ref h0, .int (x), .int (y)] : List Value).toArray 3 from by rw [hargs], lg_entry_eq]
  generalize (lg_sl ([.ref h0, .int (x), .int (y)]) ++ List.replicate (3 - (lg_sl ([.ref h0, .int (x), .int (y)])).length) Slot.unset).toArray = ls at hl ⊢
  have hl : lv_has ls 3 [(0, .ref h0), (1, .int (x)), (2, .int (y))] := hl
  refine lv_aload_n hx hb dX2_append_0 rfl (lv_at hl 0 rfl) ?_
  refine va_get (D := (dC, dI)) (ci := 2) (v := .int (nI n)) (C := RX2) (T := TX2) (N := 3) hx hb hw inX2 hown hK hP 0 rfl rfl 2 (by decide) (hw _ mw68) (fun _ h9 => h9) rfl dX2_append_1 ?_
  refine lv_aload_n hx hb dX2_append_4 rfl (lv_at hl 0 rfl) ?_
  refine va_get (D := (dC, dI)) (ci := 2) (v := .ref q1) (C := RX2) (T := TX2) (N := 3) hx hb hw inX2 hown hK hP 0 rfl rfl 0 (by decide) (hw _ mw66) (fun _ h9 => h9) rfl dX2_append_5 ?_
  refine va_alen (v := 100) hx hb hK hP 1 0 rfl rfl rfl dX2_append_8 ?_
  refine lv_icmp_ge (tgt := 42) hx hb dX2_append_9 (by decide) (fun c9_0 => ?_) (fun c9_0 => ?_)
  · skip
    exact absurd c9_0 (by rw [ti_le, nI_toInt (by omega), tc_100]; omega)
  · skip
    refine lv_aload_n hx hb dX2_append_12 rfl (lv_at hl 0 rfl) ?_
    refine va_get (D := (dC, dI)) (ci := 2) (v := .ref q1) (C := RX2) (T := TX2) (N := 3) hx hb hw inX2 hown hK hP 0 rfl rfl 0 (by decide) (hw _ mw66) (fun _ h9 => h9) rfl dX2_append_13 ?_
    refine lv_aload_n hx hb dX2_append_16 rfl (lv_at hl 0 rfl) ?_
    refine va_get (D := (dC, dI)) (ci := 2) (v := .int (nI n)) (C := RX2) (T := TX2) (N := 3) hx hb hw inX2 hown hK hP 0 rfl rfl 2 (by decide) (hw _ mw68) (fun _ h9 => h9) rfl dX2_append_17 ?_
    refine lv_iload_n hx hb dX2_append_20 rfl (lv_at hl 1 rfl) ?_
    refine va_iast hx hb hK hP hD hS 1 0 rfl rfl (i := (nI n)) (vp_in_nI (by omega) (by omega)) dX2_append_21 (fun H locs hP hD hS => ?_)
    rw [nI_clamp (show n < 2 ^ 31 by omega)] at hP hD
    have hP : va_P (dC, dI) cl5 [(h0, .inr (2, [.ref q1, .ref q2, .int (nI n)])), (q1, .inl (k1, 100, .inl (upd f n (x)))), (q2, .inl (k2, 100, .inl g))] H := hP
    have hD : va_D A [(h0, .inr (2, [.ref q1, .ref q2, .int (nI n)])), (q1, .inl (k1, 100, .inl (upd f n (x)))), (q2, .inl (k2, 100, .inl g))] := hD
    refine lv_aload_n hx hb dX2_append_22 rfl (lv_at hl 0 rfl) ?_
    refine va_get (D := (dC, dI)) (ci := 2) (v := .ref q2) (C := RX2) (T := TX2) (N := 3) hx hb hw inX2 hown hK hP 0 rfl rfl 1 (by decide) (hw _ mw67) (fun _ h9 => h9) rfl dX2_append_23 ?_
    refine lv_aload_n hx hb dX2_append_26 rfl (lv_at hl 0 rfl) ?_
    refine va_get (D := (dC, dI)) (ci := 2) (v := .int (nI n)) (C := RX2) (T := TX2) (N := 3) hx hb hw inX2 hown hK hP 0 rfl rfl 2 (by decide) (hw _ mw68) (fun _ h9 => h9) rfl dX2_append_27 ?_
    refine lv_iload_n hx hb dX2_append_30 rfl (lv_at hl 2 rfl) ?_
    refine va_iast hx hb hK hP hD hS 2 1 rfl rfl (i := (nI n)) (vp_in_nI (by omega) (by omega)) dX2_append_31 (fun H locs hP hD hS => ?_)
    rw [nI_clamp (show n < 2 ^ 31 by omega)] at hP hD
    have hP : va_P (dC, dI) cl5 [(h0, .inr (2, [.ref q1, .ref q2, .int (nI n)])), (q1, .inl (k1, 100, .inl (upd f n (x)))), (q2, .inl (k2, 100, .inl (upd g n (y))))] H := hP
    have hD : va_D A [(h0, .inr (2, [.ref q1, .ref q2, .int (nI n)])), (q1, .inl (k1, 100, .inl (upd f n (x)))), (q2, .inl (k2, 100, .inl (upd g n (y))))] := hD
    refine lv_aload_n hx hb dX2_append_32 rfl (lv_at hl 0 rfl) ?_
    refine lv_dup hx hb dX2_append_33 rfl ?_
    refine va_get (D := (dC, dI)) (ci := 2) (v := .int (nI n)) (C := RX2) (T := TX2) (N := 3) hx hb hw inX2 hown hK hP 0 rfl rfl 2 (by decide) (hw _ mw68) (fun _ h9 => h9) rfl dX2_append_34 ?_
    refine lv_iconst (v := 1) hx hb dX2_append_37 (by decide) ?_
    refine lv_iadd hx hb dX2_append_38 ?_
    refine lv_topi (fun x2 ex2 => ?_)
    obtain rfl : x2 = nI (n + 1) := by rw [ex2]; exact nI_1 n
    refine va_put (D := (dC, dI)) (ci := 2) (v := .int (nI (n + 1))) (ty := .int) (C := RX2) (T := TX2) (N := 3) hx hb hw inX2 tyX2 tyX2_ok nmX2 hown hK hP hD hS 0 rfl rfl 2 (by decide) (hw _ mw68) (fun _ h9 => h9) rfl (by decide +kernel) rfl rfl (Nat.le_of_ble_eq_true rfl) dX2_append_39 (fun H locs hP hD hS => ?_)
    have hP : va_P (dC, dI) cl5 [(h0, .inr (2, [.ref q1, .ref q2, .int (nI (n + 1))])), (q1, .inl (k1, 100, .inl (upd f n (x)))), (q2, .inl (k2, 100, .inl (upd g n (y))))] H := hP
    have hD : va_D A [(h0, .inr (2, [.ref q1, .ref q2, .int (nI (n + 1))])), (q1, .inl (k1, 100, .inl (upd f n (x)))), (q2, .inl (k2, 100, .inl (upd g n (y))))] := hD
    subst hQ
    exact W.vret hx hb hr (fun t ht hW => ⟨⟨(upd f n x, upd g n y, n + 1), rfl, rfl, by rw [ht]; exact hP, hD⟩, hS.F ht⟩) hS.2.2 dX2_append_42

abbrev rm_c_Pat_plain : Room := { frames := 1, cells := 0, slots := 0, locals := 21 }
set_option maxHeartbeats 4000000 in
set_option maxRecDepth 100000 in
theorem c_Pat_plain (l : Launch) (dC : Nat → ClassId) (dI : Nat → Nat → Nat) (sz : Nat) (h0 q : Nat) (k : ClassId) (f : Nat → Int32) (n : Nat) (h1 q1 : Nat) (k1 : ClassId) (f1 : Nat → Int32) (n1 : Nat) (hn1 : n1 ≤ 100) : Met l yX0_readPlain (.code yX0_readPlain cX0_readPlain 3 none :: wsA) rm_c_Pat_plain (va_Pc [.ref h0, .ref h1] (wr (dC, dI) [(h0, .inr (0, [.ref q, .int (nI n)])), (q, .inl (k, 100, .inl f)), (h1, .inr (1, [.ref q1, .int (nI n1)])), (q1, .inl (k1, 100, .inl f1))] [(k, .int), (k1, .int)] sz)) (va_Qv (fun (u : (Nat → Int32) × Nat) => u.2 = n1 ∧ ∀ j, j < n1 → u.1 j = f1 j) (wB (dC, dI) (va_A [(h0, .inr (0, [.ref q, .int (nI n)])), (q, .inl (k, 100, .inl f)), (h1, .inr (1, [.ref q1, .int (nI n1)])), (q1, .inl (k1, 100, .inl f1))] sz) (fun u : (Nat → Int32) × Nat => [(h0, .inr (0, [.ref q, .int (nI u.2)])), (q, .inl (k, 100, .inl (u.1))), (h1, .inr (1, [.ref q1, .int (nI n1)])), (q1, .inl (k1, 100, .inl f1))])) (va_A [(h0, .inr (0, [.ref q, .int (nI n)])), (q, .inl (k, 100, .inl f)), (h1, .inr (1, [.ref q1, .int (nI n1)])), (q1, .inl (k1, 100, .inl f1))] sz)) 0 0 (va_A [(h0, .inr (0, [.ref q, .int (nI n)])), (q, .inl (k, 100, .inl f)), (h1, .inr (1, [.ref q1, .int (nI n1)])), (q1, .inl (k1, 100, .inl f1))] sz) := by
  refine Met.ofW (cc := cX0_readPlain) (maxL := 3) (ret := none) (by decide) rfl ?_
  intro p e s m args below meth c s₁ B hml hv
  obtain ⟨hargs, hsz, hN, hP, hK, hD0⟩ := hv
  have hx := B.exec
  have hb := B.bytes
  have hr := B.returns
  have hw : ∀ w ∈ wsA, w.before args s = true := fun w h => atoms_spec (ws := (.code yX0_readPlain cX0_readPlain 3 none :: wsA)) B.pre w (List.mem_cons_of_mem _ h)
  have hown : s.vm.findClass "GlobDesk$Pattern" = some m.cls := findClass_of_methodNamed B.named
  have hlocks := B.notSynchronized
  subst hsz
  have hD := hD0.self (sz := s.heap.size)
  generalize hAe : va_A [(h0, .inr (0, [.ref q, .int (nI n)])), (q, .inl (k, 100, .inl f)), (h1, .inr (1, [.ref q1, .int (nI n1)])), (q1, .inl (k1, 100, .inl f1))] s.heap.size = A at hD ⊢
  have hA : ∀ q : Nat, s.heap.size ≤ q → A q := fun q h => by rw [← hAe]; exact Or.inr h
  have hS : va_S A s.heap s.heap [] := va_S.rf
  generalize hQ : MQ below _ args s _ _ _ = Q
  change W p l e rm_c_Pat_plain s m args below meth c s.heap [] 0 0 Q (entryFrame m args 3)
  have hl := lv_entry ([.ref h0, .ref h1]) (n := 3) (Nat.le_of_ble_eq_true rfl)
  rw [show entryFrame m args 3 = entryFrame m ([.ref h0, .ref h1] : List Value).toArray 3 from by rw [hargs], lg_entry_eq]
  generalize (lg_sl ([.ref h0, .ref h1]) ++ List.replicate (3 - (lg_sl ([.ref h0, .ref h1])).length) Slot.unset).toArray = ls at hl ⊢
  have hl : lv_has ls 3 [(0, .ref h0), (1, .ref h1)] := hl
  refine lv_aload_n hx hb dX0_readPlain_0 rfl (lv_at hl 0 rfl) ?_
  refine lv_iconst (v := 0) hx hb dX0_readPlain_1 (by decide) ?_
  refine lv_topi (fun x1 ex1 => ?_)
  obtain rfl : x1 = nI 0 := by rw [ex1]; exact nI_0.symm
  refine va_put (D := (dC, dI)) (ci := 0) (v := .int (nI 0)) (ty := .int) (C := RX0) (T := TX0) (N := 2) hx hb hw inX0 tyX0 tyX0_ok nmX0 hown hK hP hD hS 0 rfl rfl 1 (by decide) (hw _ mw53) (fun _ h9 => h9) rfl (by decide +kernel) rfl rfl (Nat.le_of_ble_eq_true rfl) dX0_readPlain_2 (fun H locs hP hD hS => ?_)
  have hP : va_P (dC, dI) cl5 [(h0, .inr (0, [.ref q, .int (nI 0)])), (q, .inl (k, 100, .inl f)), (h1, .inr (1, [.ref q1, .int (nI n1)])), (q1, .inl (k1, 100, .inl f1))] H := hP
  have hD : va_D A [(h0, .inr (0, [.ref q, .int (nI 0)])), (q, .inl (k, 100, .inl f)), (h1, .inr (1, [.ref q1, .int (nI n1)])), (q1, .inl (k1, 100, .inl f1))] := hD
  refine lv_iconst (v := 0) hx hb dX0_readPlain_5 (by decide) ?_
  refine lv_topi (fun x2 ex2 => ?_)
  obtain rfl : x2 = nI 0 := by rw [ex2]; exact nI_0.symm
  refine lv_istore_n (lv' := [(2, .int (nI 0)), (0, .ref h0), (1, .ref h1)]) hx hb dX0_readPlain_6 rfl hl (by decide) rfl (fun ls hl => ?_)
  have loop7 : ∀ (nn7 : Nat) (i : Nat) (w : Nat → Int32) (hi : i ≤ n1) (e9 : ∀ j, j < i → w j = f1 j) (_ : n1 - i < nn7) (H : Heap) (locs : List Loc) (_ : va_P (dC, dI) cl5 [(h0, .inr (0, [.ref q, .int (nI i)])), (q, .inl (k, 100, .inl w)), (h1, .inr (1, [.ref q1, .int (nI n1)])), (q1, .inl (k1, 100, .inl f1))] H) (_ : va_D A [(h0, .inr (0, [.ref q, .int (nI i)])), (q, .inl (k, 100, .inl w)), (h1, .inr (1, [.ref q1, .int (nI n1)])), (q1, .inl (k1, 100, .inl f1))]) (_ : va_S A s.heap H locs) (ls : Array Slot) (_ : lv_has ls 3 [(0, .ref h0), (1, .ref h1), (2, .int (nI i))]), W p l e rm_c_Pat_plain s m args below meth c H locs 0 0 Q (F0 m 7 ls []) := by
    intro nn7
    induction nn7 with
    | zero => intro i w hi e9 hm7 H locs hP hD hS ls hl; exact absurd hm7 (Nat.not_lt_zero _)
    | succ nn7 ih7 =>
      intro i w hi e9 hm7 H locs hP hD hS ls hl
      refine lv_iload_n hx hb dX0_readPlain_7 rfl (lv_at hl 2 rfl) ?_
      refine lv_aload_n hx hb dX0_readPlain_8 rfl (lv_at hl 1 rfl) ?_
      refine va_getN (D := (dC, dI)) (ci := 1) (v := .int (nI n1)) (C := RX1) (T := TX1) (N := 2) hx hb hw inX1 hown hK hP 2 rfl rfl 1 (by decide) (va_Nw.use rfl hN.2.1) (fun _ h9 => h9) rfl dX0_readPlain_9 ?_
      refine lv_icmp_ge (tgt := 30) hx hb dX0_readPlain_12 (by decide) (fun c12_2 => ?_) (fun c12_2 => ?_)
      · skip
        rw [ti_le, nI_toInt (by omega), nI_toInt (by omega)] at c12_2
        have e8 : i = n1 := by omega
        subst hQ
        exact W.vret hx hb hr (fun t ht hW => ⟨⟨(w, i), rfl, ⟨e8, fun j hj => e9 j (by omega)⟩, by rw [ht]; exact hP, hD⟩, hS.F ht⟩) hS.2.2 dX0_readPlain_30
      · skip
        rw [ti_le, nI_toInt (by omega), nI_toInt (by omega)] at c12_2
        refine lv_aload_n hx hb dX0_readPlain_15 rfl (lv_at hl 0 rfl) ?_
        refine lv_aload_n hx hb dX0_readPlain_16 rfl (lv_at hl 1 rfl) ?_
        refine lv_iload_n hx hb dX0_readPlain_17 rfl (lv_at hl 2 rfl) ?_
        refine vp_callSi (va_Run.run (va_runV (As := [.int (nI i)]) (rest := [.ref h0]) ⟨hx, hb, hml, hown, hw⟩ (c_Row_at l dC dI h1 q1 k1 f1 n1 hn1 (nI i)) (cwV 1 hw (gV mw159 mw137 mw138 mw17 mw139) rfl rfl rfl (by decide +kernel) ⟨Nat.le_of_ble_eq_true rfl, Nat.le_of_ble_eq_true rfl⟩) (ro.V (q0 := 0) (ci := 1) hN (hK.sub (tys' := [(k1, .int)]) [1] rfl) (hP.sub (ws' := [(h1, .inr (1, [.ref q1, .int (nI n1)])), (q1, .inl (k1, 100, .inl f1))]) [2, 3] rfl) rfl rfl) rfl rfl hl.1 rfl (lv_room (Nat.le_of_ble_eq_true rfl)) dX0_readPlain_18 ⟨Nat.le_of_ble_eq_true rfl, Nat.le_of_ble_eq_true rfl⟩)) (fun r4 hr4 => ?_)
        rw [ra_in (by omega) hn1] at hr4
        subst hr4
        have hPc := hP.sub (ws' := [(h0, .inr (0, [.ref q, .int (nI i)])), (q, .inl (k, 100, .inl w))]) [0, 1] rfl
        have hDc := hD.sub (ws' := [(h0, .inr (0, [.ref q, .int (nI i)])), (q, .inl (k, 100, .inl w))]) [0, 1] (by decide) rfl
        have hKc := hK.sub (tys' := [(k, .int)]) [0] rfl
        have hFc := va_free (wc := [(h0, .inr (0, [.ref q, .int (nI i)])), (q, .inl (k, 100, .inl w))]) hD hS hA [0, 1] rfl
        refine va_callv (va_runV (As := [.int (f1 (i))]) (rest := []) ⟨hx, hb, hml, hown, hw⟩ (c_Pat_append l dC dI H.size h0 q k w i (by omega) (f1 (i))) (cwV 1 hw (gV mw160 mw162 mw6 mw18 mw163) rfl rfl rfl (by decide +kernel) ⟨Nat.le_of_ble_eq_true rfl, Nat.le_of_ble_eq_true rfl⟩) (wr.V (q0 := 0) (ci := 0) hN hKc hPc hDc rfl rfl) rfl rfl hl.1 rfl (lv_room (Nat.le_of_ble_eq_true rfl)) dX0_readPlain_21 ⟨Nat.le_of_ble_eq_true rfl, Nat.le_of_ble_eq_true rfl⟩) hS (fun q _ h => hFc q h) hFc (fun ur5 t H1 locs ht hvm hr5 hB hz1 hk1 hS => ?_)
        subst hr5
        obtain ⟨hP1, hD1⟩ := hB
        rw [ht] at hP1
        obtain ⟨hP, hD⟩ := va_join (wr := [(h1, .inr (1, [.ref q1, .int (nI n1)])), (q1, .inl (k1, 100, .inl f1))]) (w1 := [(h0, .inr (0, [.ref q, .int (nI (i + 1))])), (q, .inl (k, 100, .inl (upd w i (f1 (i)))))]) hP hD [0, 1] [2, 3] rfl rfl (by decide) (by decide) hk1 hFc hP1 hD1
        generalize H1 = H at hP hS ⊢
        have hP : va_P (dC, dI) cl5 [(h0, .inr (0, [.ref q, .int (nI (i + 1))])), (q, .inl (k, 100, .inl (upd w i (f1 (i))))), (h1, .inr (1, [.ref q1, .int (nI n1)])), (q1, .inl (k1, 100, .inl f1))] H := hP.sub [2, 3, 0, 1] rfl
        have hD : va_D A [(h0, .inr (0, [.ref q, .int (nI (i + 1))])), (q, .inl (k, 100, .inl (upd w i (f1 (i))))), (h1, .inr (1, [.ref q1, .int (nI n1)])), (q1, .inl (k1, 100, .inl f1))] := hD.sub [2, 3, 0, 1] (by decide) rfl
        refine lv_iinc (v := nI (i + 1)) (lv' := [(2, .int (nI (i + 1))), (0, .ref h0), (1, .ref h1)]) hx hb dX0_readPlain_24 hl (k := 2) rfl (nI_inc i) (by decide) rfl (fun ls hl => ?_)
        refine lv_goto (tgt := 7) hx hb dX0_readPlain_27 (by decide) ?_
        exact ih7 (i + 1) _ (by omega) (fun j hj => by by_cases e : j = i <;> first | (subst e; exact pk_us) | (rw [pk_un e]; exact e9 j (by omega))) (by omega) H locs hP hD hS ls (lv_sub hl [1, 2, 0] rfl)
  exact loop7 (n1 + 1) 0 f (Nat.zero_le _) (fun j h => absurd h (Nat.not_lt_zero _)) (by omega) H locs hP hD hS ls (lv_sub hl [1, 2, 0] rfl)

abbrev rm_c_Pat_stars : Room := { frames := 1, cells := 0, slots := 0, locals := 21 }
set_option maxHeartbeats 4000000 in
set_option maxRecDepth 100000 in
theorem c_Pat_stars (l : Launch) (dC : Nat → ClassId) (dI : Nat → Nat → Nat) (sz : Nat) (h0 q : Nat) (k : ClassId) (f : Nat → Int32) (n : Nat) (h1 q1 : Nat) (k1 : ClassId) (f1 : Nat → Int32) (n1 : Nat) (hn1 : n1 ≤ 100) : Met l yX0_readStars (.code yX0_readStars cX0_readStars 4 none :: wsA) rm_c_Pat_stars (va_Pc [.ref h0, .ref h1] (wr (dC, dI) [(h0, .inr (0, [.ref q, .int (nI n)])), (q, .inl (k, 100, .inl f)), (h1, .inr (1, [.ref q1, .int (nI n1)])), (q1, .inl (k1, 100, .inl f1))] [(k, .int), (k1, .int)] sz)) (va_Qv (fun (u : (Nat → Int32) × Nat) => u.2 = (mkL f1 n1 n1 0).length ∧ u.2 ≤ n1 ∧ hlds u.1 (mkL f1 n1 n1 0)) (wB (dC, dI) (va_A [(h0, .inr (0, [.ref q, .int (nI n)])), (q, .inl (k, 100, .inl f)), (h1, .inr (1, [.ref q1, .int (nI n1)])), (q1, .inl (k1, 100, .inl f1))] sz) (fun u : (Nat → Int32) × Nat => [(h0, .inr (0, [.ref q, .int (nI u.2)])), (q, .inl (k, 100, .inl (u.1))), (h1, .inr (1, [.ref q1, .int (nI n1)])), (q1, .inl (k1, 100, .inl f1))])) (va_A [(h0, .inr (0, [.ref q, .int (nI n)])), (q, .inl (k, 100, .inl f)), (h1, .inr (1, [.ref q1, .int (nI n1)])), (q1, .inl (k1, 100, .inl f1))] sz)) 0 0 (va_A [(h0, .inr (0, [.ref q, .int (nI n)])), (q, .inl (k, 100, .inl f)), (h1, .inr (1, [.ref q1, .int (nI n1)])), (q1, .inl (k1, 100, .inl f1))] sz) := by
  refine Met.ofW (cc := cX0_readStars) (maxL := 4) (ret := none) (by decide) rfl ?_
  intro p e s m args below meth c s₁ B hml hv
  obtain ⟨hargs, hsz, hN, hP, hK, hD0⟩ := hv
  have hx := B.exec
  have hb := B.bytes
  have hr := B.returns
  have hw : ∀ w ∈ wsA, w.before args s = true := fun w h => atoms_spec (ws := (.code yX0_readStars cX0_readStars 4 none :: wsA)) B.pre w (List.mem_cons_of_mem _ h)
  have hown : s.vm.findClass "GlobDesk$Pattern" = some m.cls := findClass_of_methodNamed B.named
  have hlocks := B.notSynchronized
  subst hsz
  have hD := hD0.self (sz := s.heap.size)
  generalize hAe : va_A [(h0, .inr (0, [.ref q, .int (nI n)])), (q, .inl (k, 100, .inl f)), (h1, .inr (1, [.ref q1, .int (nI n1)])), (q1, .inl (k1, 100, .inl f1))] s.heap.size = A at hD ⊢
  have hA : ∀ q : Nat, s.heap.size ≤ q → A q := fun q h => by rw [← hAe]; exact Or.inr h
  have hS : va_S A s.heap s.heap [] := va_S.rf
  generalize hQ : MQ below _ args s _ _ _ = Q
  change W p l e rm_c_Pat_stars s m args below meth c s.heap [] 0 0 Q (entryFrame m args 4)
  have hl := lv_entry ([.ref h0, .ref h1]) (n := 4) (Nat.le_of_ble_eq_true rfl)
  rw [show entryFrame m args 4 = entryFrame m ([.ref h0, .ref h1] : List Value).toArray 4 from by rw [hargs], lg_entry_eq]
  generalize (lg_sl ([.ref h0, .ref h1]) ++ List.replicate (4 - (lg_sl ([.ref h0, .ref h1])).length) Slot.unset).toArray = ls at hl ⊢
  have hl : lv_has ls 4 [(0, .ref h0), (1, .ref h1)] := hl
  refine lv_aload_n hx hb dX0_readStars_0 rfl (lv_at hl 0 rfl) ?_
  refine lv_iconst (v := 0) hx hb dX0_readStars_1 (by decide) ?_
  refine lv_topi (fun x1 ex1 => ?_)
  obtain rfl : x1 = nI 0 := by rw [ex1]; exact nI_0.symm
  refine va_put (D := (dC, dI)) (ci := 0) (v := .int (nI 0)) (ty := .int) (C := RX0) (T := TX0) (N := 2) hx hb hw inX0 tyX0 tyX0_ok nmX0 hown hK hP hD hS 0 rfl rfl 1 (by decide) (hw _ mw53) (fun _ h9 => h9) rfl (by decide +kernel) rfl rfl (Nat.le_of_ble_eq_true rfl) dX0_readStars_2 (fun H locs hP hD hS => ?_)
  have hP : va_P (dC, dI) cl5 [(h0, .inr (0, [.ref q, .int (nI 0)])), (q, .inl (k, 100, .inl f)), (h1, .inr (1, [.ref q1, .int (nI n1)])), (q1, .inl (k1, 100, .inl f1))] H := hP
  have hD : va_D A [(h0, .inr (0, [.ref q, .int (nI 0)])), (q, .inl (k, 100, .inl f)), (h1, .inr (1, [.ref q1, .int (nI n1)])), (q1, .inl (k1, 100, .inl f1))] := hD
  refine lv_iconst (v := 0) hx hb dX0_readStars_5 (by decide) ?_
  refine lv_topi (fun x2 ex2 => ?_)
  obtain rfl : x2 = nI 0 := by rw [ex2]; exact nI_0.symm
  refine lv_istore_n (lv' := [(2, .int (nI 0)), (0, .ref h0), (1, .ref h1)]) hx hb dX0_readStars_6 rfl hl (by decide) rfl (fun ls hl => ?_)
  have loop7 : ∀ (nn7 : Nat) (i r p1 : Nat) (acc : List Int32) (w : Nat → Int32) (hr9 : n1 ≤ r + i) (hp9 : p1 = acc.length) (e9 : acc ++ mkL f1 n1 r i = mkL f1 n1 n1 0) (e7 : hlds w acc) (hpi : p1 ≤ i) (hpi2 : i ≤ n1) (_ : n1 - i < nn7) (H : Heap) (locs : List Loc) (_ : va_P (dC, dI) cl5 [(h0, .inr (0, [.ref q, .int (nI p1)])), (q, .inl (k, 100, .inl w)), (h1, .inr (1, [.ref q1, .int (nI n1)])), (q1, .inl (k1, 100, .inl f1))] H) (_ : va_D A [(h0, .inr (0, [.ref q, .int (nI p1)])), (q, .inl (k, 100, .inl w)), (h1, .inr (1, [.ref q1, .int (nI n1)])), (q1, .inl (k1, 100, .inl f1))]) (_ : va_S A s.heap H locs) (ls : Array Slot) (_ : lv_has ls 4 [(0, .ref h0), (1, .ref h1), (2, .int (nI i))]), W p l e rm_c_Pat_stars s m args below meth c H locs 0 0 Q (F0 m 7 ls []) := by
    intro nn7
    induction nn7 with
    | zero => intro i r p1 acc w hr9 hp9 e9 e7 hpi hpi2 hm7 H locs hP hD hS ls hl; exact absurd hm7 (Nat.not_lt_zero _)
    | succ nn7 ih7 =>
      intro i r p1 acc w hr9 hp9 e9 e7 hpi hpi2 hm7 H locs hP hD hS ls hl
      refine lv_iload_n hx hb dX0_readStars_7 rfl (lv_at hl 2 rfl) ?_
      refine lv_aload_n hx hb dX0_readStars_8 rfl (lv_at hl 1 rfl) ?_
      refine va_getN (D := (dC, dI)) (ci := 1) (v := .int (nI n1)) (C := RX1) (T := TX1) (N := 2) hx hb hw inX1 hown hK hP 2 rfl rfl 1 (by decide) (va_Nw.use rfl hN.2.1) (fun _ h9 => h9) rfl dX0_readStars_9 ?_
      refine lv_icmp_ge (tgt := 91) hx hb dX0_readStars_12 (by decide) (fun c12_2 => ?_) (fun c12_2 => ?_)
      · skip
        rw [ti_le, nI_toInt (by omega), nI_toInt (by omega)] at c12_2
        subst hQ
        exact W.vret hx hb hr (fun t ht hW => ⟨⟨(w, p1), rfl, by rw [mkL_end (by omega), List.append_nil] at e9; subst e9; exact ⟨hp9, by show p1 ≤ n1; omega, e7⟩, by rw [ht]; exact hP, hD⟩, hS.F ht⟩) hS.2.2 dX0_readStars_91
      · skip
        rw [ti_le, nI_toInt (by omega), nI_toInt (by omega)] at c12_2
        refine lv_aload_n hx hb dX0_readStars_15 rfl (lv_at hl 1 rfl) ?_
        refine lv_iload_n hx hb dX0_readStars_16 rfl (lv_at hl 2 rfl) ?_
        refine vp_callSi (va_Run.run (va_runV (As := [.int (nI i)]) (rest := []) ⟨hx, hb, hml, hown, hw⟩ (c_Row_at l dC dI h1 q1 k1 f1 n1 hn1 (nI i)) (cwV 1 hw (gV mw159 mw137 mw138 mw17 mw139) rfl rfl rfl (by decide +kernel) ⟨Nat.le_of_ble_eq_true rfl, Nat.le_of_ble_eq_true rfl⟩) (ro.V (q0 := 0) (ci := 1) hN (hK.sub (tys' := [(k1, .int)]) [1] rfl) (hP.sub (ws' := [(h1, .inr (1, [.ref q1, .int (nI n1)])), (q1, .inl (k1, 100, .inl f1))]) [2, 3] rfl) rfl rfl) rfl rfl hl.1 rfl (lv_room (Nat.le_of_ble_eq_true rfl)) dX0_readStars_17 ⟨Nat.le_of_ble_eq_true rfl, Nat.le_of_ble_eq_true rfl⟩)) (fun r4 hr4 => ?_)
        rw [ra_in (by omega) hn1] at hr4
        subst hr4
        refine lv_istore_n (lv' := [(3, .int (f1 (i))), (0, .ref h0), (1, .ref h1), (2, .int (nI i))]) hx hb dX0_readStars_20 rfl hl (by decide) rfl (fun ls hl => ?_)
        refine lv_iload_n hx hb dX0_readStars_21 rfl (lv_at hl 0 rfl) ?_
        refine lv_bipush (v := 92) hx hb dX0_readStars_22 (by decide) ?_
        refine lv_icmp_ne (tgt := 52) hx hb dX0_readStars_24 (by decide) (fun c24_4 => ?_) (fun c24_4 => ?_)
        · skip
          have z0 : ¬ (f1 i = 92 ∧ i + 1 < n1) := fun q => c24_4 q.1
          refine lv_iload_n hx hb dX0_readStars_52 rfl (lv_at hl 0 rfl) ?_
          refine lv_bipush (v := 42) hx hb dX0_readStars_53 (by decide) ?_
          refine lv_icmp_ne (tgt := 68) hx hb dX0_readStars_55 (by decide) (fun c55_5 => ?_) (fun c55_5 => ?_)
          · skip
            have z2 := c55_5
            refine lv_aload_n hx hb dX0_readStars_68 rfl (lv_at hl 1 rfl) ?_
            refine lv_iload_n hx hb dX0_readStars_69 rfl (lv_at hl 0 rfl) ?_
            refine lv_bipush (v := 63) hx hb dX0_readStars_70 (by decide) ?_
            refine lv_icmp_ne (tgt := 81) hx hb dX0_readStars_72 (by decide) (fun c72_6 => ?_) (fun c72_6 => ?_)
            · skip
              have z3 := c72_6
              refine lv_iload_n hx hb dX0_readStars_81 rfl (lv_at hl 0 rfl) ?_
              have hPc := hP.sub (ws' := [(h0, .inr (0, [.ref q, .int (nI p1)])), (q, .inl (k, 100, .inl w))]) [0, 1] rfl
              have hDc := hD.sub (ws' := [(h0, .inr (0, [.ref q, .int (nI p1)])), (q, .inl (k, 100, .inl w))]) [0, 1] (by decide) rfl
              have hKc := hK.sub (tys' := [(k, .int)]) [0] rfl
              have hFc := va_free (wc := [(h0, .inr (0, [.ref q, .int (nI p1)])), (q, .inl (k, 100, .inl w))]) hD hS hA [0, 1] rfl
              refine va_callv (va_runV (As := [.int (f1 (i))]) (rest := []) ⟨hx, hb, hml, hown, hw⟩ (c_Pat_append l dC dI H.size h0 q k w p1 (by omega) (f1 (i))) (cwV 1 hw (gV mw160 mw162 mw6 mw18 mw163) rfl rfl rfl (by decide +kernel) ⟨Nat.le_of_ble_eq_true rfl, Nat.le_of_ble_eq_true rfl⟩) (wr.V (q0 := 0) (ci := 0) hN hKc hPc hDc rfl rfl) rfl rfl hl.1 rfl (lv_room (Nat.le_of_ble_eq_true rfl)) dX0_readStars_82 ⟨Nat.le_of_ble_eq_true rfl, Nat.le_of_ble_eq_true rfl⟩) hS (fun q _ h => hFc q h) hFc (fun ur8 t H1 locs ht hvm hr8 hB hz1 hk1 hS => ?_)
              subst hr8
              obtain ⟨hP1, hD1⟩ := hB
              rw [ht] at hP1
              obtain ⟨hP, hD⟩ := va_join (wr := [(h1, .inr (1, [.ref q1, .int (nI n1)])), (q1, .inl (k1, 100, .inl f1))]) (w1 := [(h0, .inr (0, [.ref q, .int (nI (p1 + 1))])), (q, .inl (k, 100, .inl (upd w p1 (f1 (i)))))]) hP hD [0, 1] [2, 3] rfl rfl (by decide) (by decide) hk1 hFc hP1 hD1
              generalize H1 = H at hP hS ⊢
              have hP : va_P (dC, dI) cl5 [(h0, .inr (0, [.ref q, .int (nI (p1 + 1))])), (q, .inl (k, 100, .inl (upd w p1 (f1 (i))))), (h1, .inr (1, [.ref q1, .int (nI n1)])), (q1, .inl (k1, 100, .inl f1))] H := hP.sub [2, 3, 0, 1] rfl
              have hD : va_D A [(h0, .inr (0, [.ref q, .int (nI (p1 + 1))])), (q, .inl (k, 100, .inl (upd w p1 (f1 (i))))), (h1, .inr (1, [.ref q1, .int (nI n1)])), (q1, .inl (k1, 100, .inl f1))] := hD.sub [2, 3, 0, 1] (by decide) rfl
              refine lv_iinc (v := nI (i + 1)) (lv' := [(2, .int (nI (i + 1))), (3, .int (f1 (i))), (0, .ref h0), (1, .ref h1)]) hx hb dX0_readStars_85 hl (k := 3) rfl (nI_inc i) (by decide) rfl (fun ls hl => ?_)
              refine lv_goto (tgt := 7) hx hb dX0_readStars_88 (by decide) ?_
              exact ih7 (i + 1) (r - 1) (p1 + 1) (acc ++ [f1 i]) _ (by omega) (by rw [List.length_append, List.length_singleton, hp9]) (by rw [List.append_assoc, ← e9, mkL_one z0 (by omega) hr9, if_neg z2, if_neg z3]; rfl) (hlds_add e7 hp9) (by omega) (by omega) (by omega) H locs hP hD hS ls (lv_sub hl [2, 3, 0] rfl)
            · skip
              have z3 := c72_6
              refine lv_sipush (v := 256) hx hb dX0_readStars_75 (by decide) ?_
              refine lv_goto (tgt := 82) hx hb dX0_readStars_78 (by decide) ?_
              have hPc := hP.sub (ws' := [(h0, .inr (0, [.ref q, .int (nI p1)])), (q, .inl (k, 100, .inl w))]) [0, 1] rfl
              have hDc := hD.sub (ws' := [(h0, .inr (0, [.ref q, .int (nI p1)])), (q, .inl (k, 100, .inl w))]) [0, 1] (by decide) rfl
              have hKc := hK.sub (tys' := [(k, .int)]) [0] rfl
              have hFc := va_free (wc := [(h0, .inr (0, [.ref q, .int (nI p1)])), (q, .inl (k, 100, .inl w))]) hD hS hA [0, 1] rfl
              refine va_callv (va_runV (As := [.int (256)]) (rest := []) ⟨hx, hb, hml, hown, hw⟩ (c_Pat_append l dC dI H.size h0 q k w p1 (by omega) (256)) (cwV 1 hw (gV mw160 mw162 mw6 mw18 mw163) rfl rfl rfl (by decide +kernel) ⟨Nat.le_of_ble_eq_true rfl, Nat.le_of_ble_eq_true rfl⟩) (wr.V (q0 := 0) (ci := 0) hN hKc hPc hDc rfl rfl) rfl rfl hl.1 rfl (lv_room (Nat.le_of_ble_eq_true rfl)) dX0_readStars_82 ⟨Nat.le_of_ble_eq_true rfl, Nat.le_of_ble_eq_true rfl⟩) hS (fun q _ h => hFc q h) hFc (fun ur9 t H1 locs ht hvm hr9 hB hz1 hk1 hS => ?_)
              subst hr9
              obtain ⟨hP1, hD1⟩ := hB
              rw [ht] at hP1
              obtain ⟨hP, hD⟩ := va_join (wr := [(h1, .inr (1, [.ref q1, .int (nI n1)])), (q1, .inl (k1, 100, .inl f1))]) (w1 := [(h0, .inr (0, [.ref q, .int (nI (p1 + 1))])), (q, .inl (k, 100, .inl (upd w p1 (256))))]) hP hD [0, 1] [2, 3] rfl rfl (by decide) (by decide) hk1 hFc hP1 hD1
              generalize H1 = H at hP hS ⊢
              have hP : va_P (dC, dI) cl5 [(h0, .inr (0, [.ref q, .int (nI (p1 + 1))])), (q, .inl (k, 100, .inl (upd w p1 (256)))), (h1, .inr (1, [.ref q1, .int (nI n1)])), (q1, .inl (k1, 100, .inl f1))] H := hP.sub [2, 3, 0, 1] rfl
              have hD : va_D A [(h0, .inr (0, [.ref q, .int (nI (p1 + 1))])), (q, .inl (k, 100, .inl (upd w p1 (256)))), (h1, .inr (1, [.ref q1, .int (nI n1)])), (q1, .inl (k1, 100, .inl f1))] := hD.sub [2, 3, 0, 1] (by decide) rfl
              refine lv_iinc (v := nI (i + 1)) (lv' := [(2, .int (nI (i + 1))), (3, .int (f1 (i))), (0, .ref h0), (1, .ref h1)]) hx hb dX0_readStars_85 hl (k := 3) rfl (nI_inc i) (by decide) rfl (fun ls hl => ?_)
              refine lv_goto (tgt := 7) hx hb dX0_readStars_88 (by decide) ?_
              exact ih7 (i + 1) (r - 1) (p1 + 1) (acc ++ [256]) _ (by omega) (by rw [List.length_append, List.length_singleton, hp9]) (by rw [List.append_assoc, ← e9, mkL_one z0 (by omega) hr9, if_neg z2, if_pos z3]; rfl) (hlds_add e7 hp9) (by omega) (by omega) (by omega) H locs hP hD hS ls (lv_sub hl [2, 3, 0] rfl)
          · skip
            have z2 := c55_5
            refine lv_aload_n hx hb dX0_readStars_58 rfl (lv_at hl 1 rfl) ?_
            refine lv_sipush (v := 257) hx hb dX0_readStars_59 (by decide) ?_
            have hPc := hP.sub (ws' := [(h0, .inr (0, [.ref q, .int (nI p1)])), (q, .inl (k, 100, .inl w))]) [0, 1] rfl
            have hDc := hD.sub (ws' := [(h0, .inr (0, [.ref q, .int (nI p1)])), (q, .inl (k, 100, .inl w))]) [0, 1] (by decide) rfl
            have hKc := hK.sub (tys' := [(k, .int)]) [0] rfl
            have hFc := va_free (wc := [(h0, .inr (0, [.ref q, .int (nI p1)])), (q, .inl (k, 100, .inl w))]) hD hS hA [0, 1] rfl
            refine va_callv (va_runV (As := [.int (257)]) (rest := []) ⟨hx, hb, hml, hown, hw⟩ (c_Pat_append l dC dI H.size h0 q k w p1 (by omega) (257)) (cwV 1 hw (gV mw160 mw162 mw6 mw18 mw163) rfl rfl rfl (by decide +kernel) ⟨Nat.le_of_ble_eq_true rfl, Nat.le_of_ble_eq_true rfl⟩) (wr.V (q0 := 0) (ci := 0) hN hKc hPc hDc rfl rfl) rfl rfl hl.1 rfl (lv_room (Nat.le_of_ble_eq_true rfl)) dX0_readStars_62 ⟨Nat.le_of_ble_eq_true rfl, Nat.le_of_ble_eq_true rfl⟩) hS (fun q _ h => hFc q h) hFc (fun ur10 t H1 locs ht hvm hr10 hB hz1 hk1 hS => ?_)
            subst hr10
            obtain ⟨hP1, hD1⟩ := hB
            rw [ht] at hP1
            obtain ⟨hP, hD⟩ := va_join (wr := [(h1, .inr (1, [.ref q1, .int (nI n1)])), (q1, .inl (k1, 100, .inl f1))]) (w1 := [(h0, .inr (0, [.ref q, .int (nI (p1 + 1))])), (q, .inl (k, 100, .inl (upd w p1 (257))))]) hP hD [0, 1] [2, 3] rfl rfl (by decide) (by decide) hk1 hFc hP1 hD1
            generalize H1 = H at hP hS ⊢
            have hP : va_P (dC, dI) cl5 [(h0, .inr (0, [.ref q, .int (nI (p1 + 1))])), (q, .inl (k, 100, .inl (upd w p1 (257)))), (h1, .inr (1, [.ref q1, .int (nI n1)])), (q1, .inl (k1, 100, .inl f1))] H := hP.sub [2, 3, 0, 1] rfl
            have hD : va_D A [(h0, .inr (0, [.ref q, .int (nI (p1 + 1))])), (q, .inl (k, 100, .inl (upd w p1 (257)))), (h1, .inr (1, [.ref q1, .int (nI n1)])), (q1, .inl (k1, 100, .inl f1))] := hD.sub [2, 3, 0, 1] (by decide) rfl
            refine lv_goto (tgt := 85) hx hb dX0_readStars_65 (by decide) ?_
            refine lv_iinc (v := nI (i + 1)) (lv' := [(2, .int (nI (i + 1))), (3, .int (f1 (i))), (0, .ref h0), (1, .ref h1)]) hx hb dX0_readStars_85 hl (k := 3) rfl (nI_inc i) (by decide) rfl (fun ls hl => ?_)
            refine lv_goto (tgt := 7) hx hb dX0_readStars_88 (by decide) ?_
            exact ih7 (i + 1) (r - 1) (p1 + 1) (acc ++ [257]) _ (by omega) (by rw [List.length_append, List.length_singleton, hp9]) (by rw [List.append_assoc, ← e9, mkL_one z0 (by omega) hr9, if_pos z2]; rfl) (hlds_add e7 hp9) (by omega) (by omega) (by omega) H locs hP hD hS ls (lv_sub hl [2, 3, 0] rfl)
        · skip
          have z1 := c24_4
          refine lv_iload_n hx hb dX0_readStars_27 rfl (lv_at hl 3 rfl) ?_
          refine lv_iconst (v := 1) hx hb dX0_readStars_28 (by decide) ?_
          refine lv_iadd hx hb dX0_readStars_29 ?_
          refine lv_topi (fun x11 ex11 => ?_)
          obtain rfl : x11 = nI (i + 1) := by rw [ex11]; exact nI_1 i
          refine lv_aload_n hx hb dX0_readStars_30 rfl (lv_at hl 2 rfl) ?_
          refine va_getN (D := (dC, dI)) (ci := 1) (v := .int (nI n1)) (C := RX1) (T := TX1) (N := 2) hx hb hw inX1 hown hK hP 2 rfl rfl 1 (by decide) (va_Nw.use rfl hN.2.1) (fun _ h9 => h9) rfl dX0_readStars_31 ?_
          refine lv_icmp_ge (tgt := 52) hx hb dX0_readStars_34 (by decide) (fun c34_11 => ?_) (fun c34_11 => ?_)
          · skip
            rw [ti_le, nI_toInt (by omega), nI_toInt (by omega)] at c34_11
            have z0 : ¬ (f1 i = 92 ∧ i + 1 < n1) := fun q => by omega
            refine lv_iload_n hx hb dX0_readStars_52 rfl (lv_at hl 0 rfl) ?_
            refine lv_bipush (v := 42) hx hb dX0_readStars_53 (by decide) ?_
            refine lv_icmp_ne (tgt := 68) hx hb dX0_readStars_55 (by decide) (fun c55_12 => ?_) (fun c55_12 => ?_)
            · skip
              have z2 := c55_12
              refine lv_aload_n hx hb dX0_readStars_68 rfl (lv_at hl 1 rfl) ?_
              refine lv_iload_n hx hb dX0_readStars_69 rfl (lv_at hl 0 rfl) ?_
              refine lv_bipush (v := 63) hx hb dX0_readStars_70 (by decide) ?_
              refine lv_icmp_ne (tgt := 81) hx hb dX0_readStars_72 (by decide) (fun c72_13 => ?_) (fun c72_13 => ?_)
              · skip
                have z3 := c72_13
                refine lv_iload_n hx hb dX0_readStars_81 rfl (lv_at hl 0 rfl) ?_
                have hPc := hP.sub (ws' := [(h0, .inr (0, [.ref q, .int (nI p1)])), (q, .inl (k, 100, .inl w))]) [0, 1] rfl
                have hDc := hD.sub (ws' := [(h0, .inr (0, [.ref q, .int (nI p1)])), (q, .inl (k, 100, .inl w))]) [0, 1] (by decide) rfl
                have hKc := hK.sub (tys' := [(k, .int)]) [0] rfl
                have hFc := va_free (wc := [(h0, .inr (0, [.ref q, .int (nI p1)])), (q, .inl (k, 100, .inl w))]) hD hS hA [0, 1] rfl
                refine va_callv (va_runV (As := [.int (f1 (i))]) (rest := []) ⟨hx, hb, hml, hown, hw⟩ (c_Pat_append l dC dI H.size h0 q k w p1 (by omega) (f1 (i))) (cwV 1 hw (gV mw160 mw162 mw6 mw18 mw163) rfl rfl rfl (by decide +kernel) ⟨Nat.le_of_ble_eq_true rfl, Nat.le_of_ble_eq_true rfl⟩) (wr.V (q0 := 0) (ci := 0) hN hKc hPc hDc rfl rfl) rfl rfl hl.1 rfl (lv_room (Nat.le_of_ble_eq_true rfl)) dX0_readStars_82 ⟨Nat.le_of_ble_eq_true rfl, Nat.le_of_ble_eq_true rfl⟩) hS (fun q _ h => hFc q h) hFc (fun ur15 t H1 locs ht hvm hr15 hB hz1 hk1 hS => ?_)
                subst hr15
                obtain ⟨hP1, hD1⟩ := hB
                rw [ht] at hP1
                obtain ⟨hP, hD⟩ := va_join (wr := [(h1, .inr (1, [.ref q1, .int (nI n1)])), (q1, .inl (k1, 100, .inl f1))]) (w1 := [(h0, .inr (0, [.ref q, .int (nI (p1 + 1))])), (q, .inl (k, 100, .inl (upd w p1 (f1 (i)))))]) hP hD [0, 1] [2, 3] rfl rfl (by decide) (by decide) hk1 hFc hP1 hD1
                generalize H1 = H at hP hS ⊢
                have hP : va_P (dC, dI) cl5 [(h0, .inr (0, [.ref q, .int (nI (p1 + 1))])), (q, .inl (k, 100, .inl (upd w p1 (f1 (i))))), (h1, .inr (1, [.ref q1, .int (nI n1)])), (q1, .inl (k1, 100, .inl f1))] H := hP.sub [2, 3, 0, 1] rfl
                have hD : va_D A [(h0, .inr (0, [.ref q, .int (nI (p1 + 1))])), (q, .inl (k, 100, .inl (upd w p1 (f1 (i))))), (h1, .inr (1, [.ref q1, .int (nI n1)])), (q1, .inl (k1, 100, .inl f1))] := hD.sub [2, 3, 0, 1] (by decide) rfl
                refine lv_iinc (v := nI (i + 1)) (lv' := [(2, .int (nI (i + 1))), (3, .int (f1 (i))), (0, .ref h0), (1, .ref h1)]) hx hb dX0_readStars_85 hl (k := 3) rfl (nI_inc i) (by decide) rfl (fun ls hl => ?_)
                refine lv_goto (tgt := 7) hx hb dX0_readStars_88 (by decide) ?_
                exact ih7 (i + 1) (r - 1) (p1 + 1) (acc ++ [f1 i]) _ (by omega) (by rw [List.length_append, List.length_singleton, hp9]) (by rw [List.append_assoc, ← e9, mkL_one z0 (by omega) hr9, if_neg z2, if_neg z3]; rfl) (hlds_add e7 hp9) (by omega) (by omega) (by omega) H locs hP hD hS ls (lv_sub hl [2, 3, 0] rfl)
              · skip
                have z3 := c72_13
                refine lv_sipush (v := 256) hx hb dX0_readStars_75 (by decide) ?_
                refine lv_goto (tgt := 82) hx hb dX0_readStars_78 (by decide) ?_
                have hPc := hP.sub (ws' := [(h0, .inr (0, [.ref q, .int (nI p1)])), (q, .inl (k, 100, .inl w))]) [0, 1] rfl
                have hDc := hD.sub (ws' := [(h0, .inr (0, [.ref q, .int (nI p1)])), (q, .inl (k, 100, .inl w))]) [0, 1] (by decide) rfl
                have hKc := hK.sub (tys' := [(k, .int)]) [0] rfl
                have hFc := va_free (wc := [(h0, .inr (0, [.ref q, .int (nI p1)])), (q, .inl (k, 100, .inl w))]) hD hS hA [0, 1] rfl
                refine va_callv (va_runV (As := [.int (256)]) (rest := []) ⟨hx, hb, hml, hown, hw⟩ (c_Pat_append l dC dI H.size h0 q k w p1 (by omega) (256)) (cwV 1 hw (gV mw160 mw162 mw6 mw18 mw163) rfl rfl rfl (by decide +kernel) ⟨Nat.le_of_ble_eq_true rfl, Nat.le_of_ble_eq_true rfl⟩) (wr.V (q0 := 0) (ci := 0) hN hKc hPc hDc rfl rfl) rfl rfl hl.1 rfl (lv_room (Nat.le_of_ble_eq_true rfl)) dX0_readStars_82 ⟨Nat.le_of_ble_eq_true rfl, Nat.le_of_ble_eq_true rfl⟩) hS (fun q _ h => hFc q h) hFc (fun ur16 t H1 locs ht hvm hr16 hB hz1 hk1 hS => ?_)
                subst hr16
                obtain ⟨hP1, hD1⟩ := hB
                rw [ht] at hP1
                obtain ⟨hP, hD⟩ := va_join (wr := [(h1, .inr (1, [.ref q1, .int (nI n1)])), (q1, .inl (k1, 100, .inl f1))]) (w1 := [(h0, .inr (0, [.ref q, .int (nI (p1 + 1))])), (q, .inl (k, 100, .inl (upd w p1 (256))))]) hP hD [0, 1] [2, 3] rfl rfl (by decide) (by decide) hk1 hFc hP1 hD1
                generalize H1 = H at hP hS ⊢
                have hP : va_P (dC, dI) cl5 [(h0, .inr (0, [.ref q, .int (nI (p1 + 1))])), (q, .inl (k, 100, .inl (upd w p1 (256)))), (h1, .inr (1, [.ref q1, .int (nI n1)])), (q1, .inl (k1, 100, .inl f1))] H := hP.sub [2, 3, 0, 1] rfl
                have hD : va_D A [(h0, .inr (0, [.ref q, .int (nI (p1 + 1))])), (q, .inl (k, 100, .inl (upd w p1 (256)))), (h1, .inr (1, [.ref q1, .int (nI n1)])), (q1, .inl (k1, 100, .inl f1))] := hD.sub [2, 3, 0, 1] (by decide) rfl
                refine lv_iinc (v := nI (i + 1)) (lv' := [(2, .int (nI (i + 1))), (3, .int (f1 (i))), (0, .ref h0), (1, .ref h1)]) hx hb dX0_readStars_85 hl (k := 3) rfl (nI_inc i) (by decide) rfl (fun ls hl => ?_)
                refine lv_goto (tgt := 7) hx hb dX0_readStars_88 (by decide) ?_
                exact ih7 (i + 1) (r - 1) (p1 + 1) (acc ++ [256]) _ (by omega) (by rw [List.length_append, List.length_singleton, hp9]) (by rw [List.append_assoc, ← e9, mkL_one z0 (by omega) hr9, if_neg z2, if_pos z3]; rfl) (hlds_add e7 hp9) (by omega) (by omega) (by omega) H locs hP hD hS ls (lv_sub hl [2, 3, 0] rfl)
            · skip
              have z2 := c55_12
              refine lv_aload_n hx hb dX0_readStars_58 rfl (lv_at hl 1 rfl) ?_
              refine lv_sipush (v := 257) hx hb dX0_readStars_59 (by decide) ?_
              have hPc := hP.sub (ws' := [(h0, .inr (0, [.ref q, .int (nI p1)])), (q, .inl (k, 100, .inl w))]) [0, 1] rfl
              have hDc := hD.sub (ws' := [(h0, .inr (0, [.ref q, .int (nI p1)])), (q, .inl (k, 100, .inl w))]) [0, 1] (by decide) rfl
              have hKc := hK.sub (tys' := [(k, .int)]) [0] rfl
              have hFc := va_free (wc := [(h0, .inr (0, [.ref q, .int (nI p1)])), (q, .inl (k, 100, .inl w))]) hD hS hA [0, 1] rfl
              refine va_callv (va_runV (As := [.int (257)]) (rest := []) ⟨hx, hb, hml, hown, hw⟩ (c_Pat_append l dC dI H.size h0 q k w p1 (by omega) (257)) (cwV 1 hw (gV mw160 mw162 mw6 mw18 mw163) rfl rfl rfl (by decide +kernel) ⟨Nat.le_of_ble_eq_true rfl, Nat.le_of_ble_eq_true rfl⟩) (wr.V (q0 := 0) (ci := 0) hN hKc hPc hDc rfl rfl) rfl rfl hl.1 rfl (lv_room (Nat.le_of_ble_eq_true rfl)) dX0_readStars_62 ⟨Nat.le_of_ble_eq_true rfl, Nat.le_of_ble_eq_true rfl⟩) hS (fun q _ h => hFc q h) hFc (fun ur17 t H1 locs ht hvm hr17 hB hz1 hk1 hS => ?_)
              subst hr17
              obtain ⟨hP1, hD1⟩ := hB
              rw [ht] at hP1
              obtain ⟨hP, hD⟩ := va_join (wr := [(h1, .inr (1, [.ref q1, .int (nI n1)])), (q1, .inl (k1, 100, .inl f1))]) (w1 := [(h0, .inr (0, [.ref q, .int (nI (p1 + 1))])), (q, .inl (k, 100, .inl (upd w p1 (257))))]) hP hD [0, 1] [2, 3] rfl rfl (by decide) (by decide) hk1 hFc hP1 hD1
              generalize H1 = H at hP hS ⊢
              have hP : va_P (dC, dI) cl5 [(h0, .inr (0, [.ref q, .int (nI (p1 + 1))])), (q, .inl (k, 100, .inl (upd w p1 (257)))), (h1, .inr (1, [.ref q1, .int (nI n1)])), (q1, .inl (k1, 100, .inl f1))] H := hP.sub [2, 3, 0, 1] rfl
              have hD : va_D A [(h0, .inr (0, [.ref q, .int (nI (p1 + 1))])), (q, .inl (k, 100, .inl (upd w p1 (257)))), (h1, .inr (1, [.ref q1, .int (nI n1)])), (q1, .inl (k1, 100, .inl f1))] := hD.sub [2, 3, 0, 1] (by decide) rfl
              refine lv_goto (tgt := 85) hx hb dX0_readStars_65 (by decide) ?_
              refine lv_iinc (v := nI (i + 1)) (lv' := [(2, .int (nI (i + 1))), (3, .int (f1 (i))), (0, .ref h0), (1, .ref h1)]) hx hb dX0_readStars_85 hl (k := 3) rfl (nI_inc i) (by decide) rfl (fun ls hl => ?_)
              refine lv_goto (tgt := 7) hx hb dX0_readStars_88 (by decide) ?_
              exact ih7 (i + 1) (r - 1) (p1 + 1) (acc ++ [257]) _ (by omega) (by rw [List.length_append, List.length_singleton, hp9]) (by rw [List.append_assoc, ← e9, mkL_one z0 (by omega) hr9, if_pos z2]; rfl) (hlds_add e7 hp9) (by omega) (by omega) (by omega) H locs hP hD hS ls (lv_sub hl [2, 3, 0] rfl)
          · skip
            rw [ti_le, nI_toInt (by omega), nI_toInt (by omega)] at c34_11
            have z0 : i + 1 < n1 := by omega
            refine lv_iinc (v := nI (i + 1)) (lv' := [(2, .int (nI (i + 1))), (3, .int (f1 (i))), (0, .ref h0), (1, .ref h1)]) hx hb dX0_readStars_37 hl (k := 3) rfl (nI_inc i) (by decide) rfl (fun ls hl => ?_)
            refine lv_aload_n hx hb dX0_readStars_40 rfl (lv_at hl 2 rfl) ?_
            refine lv_aload_n hx hb dX0_readStars_41 rfl (lv_at hl 3 rfl) ?_
            refine lv_iload_n hx hb dX0_readStars_42 rfl (lv_at hl 0 rfl) ?_
            refine vp_callSi (va_Run.run (va_runV (As := [.int (nI (i + 1))]) (rest := [.ref h0]) ⟨hx, hb, hml, hown, hw⟩ (c_Row_at l dC dI h1 q1 k1 f1 n1 hn1 (nI (i + 1))) (cwV 1 hw (gV mw159 mw137 mw138 mw17 mw139) rfl rfl rfl (by decide +kernel) ⟨Nat.le_of_ble_eq_true rfl, Nat.le_of_ble_eq_true rfl⟩) (ro.V (q0 := 0) (ci := 1) hN (hK.sub (tys' := [(k1, .int)]) [1] rfl) (hP.sub (ws' := [(h1, .inr (1, [.ref q1, .int (nI n1)])), (q1, .inl (k1, 100, .inl f1))]) [2, 3] rfl) rfl rfl) rfl rfl hl.1 rfl (lv_room (Nat.le_of_ble_eq_true rfl)) dX0_readStars_43 ⟨Nat.le_of_ble_eq_true rfl, Nat.le_of_ble_eq_true rfl⟩)) (fun r18 hr18 => ?_)
            rw [ra_in (by omega) hn1] at hr18
            subst hr18
            have hPc := hP.sub (ws' := [(h0, .inr (0, [.ref q, .int (nI p1)])), (q, .inl (k, 100, .inl w))]) [0, 1] rfl
            have hDc := hD.sub (ws' := [(h0, .inr (0, [.ref q, .int (nI p1)])), (q, .inl (k, 100, .inl w))]) [0, 1] (by decide) rfl
            have hKc := hK.sub (tys' := [(k, .int)]) [0] rfl
            have hFc := va_free (wc := [(h0, .inr (0, [.ref q, .int (nI p1)])), (q, .inl (k, 100, .inl w))]) hD hS hA [0, 1] rfl
            refine va_callv (va_runV (As := [.int (f1 (i + 1))]) (rest := []) ⟨hx, hb, hml, hown, hw⟩ (c_Pat_append l dC dI H.size h0 q k w p1 (by omega) (f1 (i + 1))) (cwV 1 hw (gV mw160 mw162 mw6 mw18 mw163) rfl rfl rfl (by decide +kernel) ⟨Nat.le_of_ble_eq_true rfl, Nat.le_of_ble_eq_true rfl⟩) (wr.V (q0 := 0) (ci := 0) hN hKc hPc hDc rfl rfl) rfl rfl hl.1 rfl (lv_room (Nat.le_of_ble_eq_true rfl)) dX0_readStars_46 ⟨Nat.le_of_ble_eq_true rfl, Nat.le_of_ble_eq_true rfl⟩) hS (fun q _ h => hFc q h) hFc (fun ur19 t H1 locs ht hvm hr19 hB hz1 hk1 hS => ?_)
            subst hr19
            obtain ⟨hP1, hD1⟩ := hB
            rw [ht] at hP1
            obtain ⟨hP, hD⟩ := va_join (wr := [(h1, .inr (1, [.ref q1, .int (nI n1)])), (q1, .inl (k1, 100, .inl f1))]) (w1 := [(h0, .inr (0, [.ref q, .int (nI (p1 + 1))])), (q, .inl (k, 100, .inl (upd w p1 (f1 (i + 1)))))]) hP hD [0, 1] [2, 3] rfl rfl (by decide) (by decide) hk1 hFc hP1 hD1
            generalize H1 = H at hP hS ⊢
            have hP : va_P (dC, dI) cl5 [(h0, .inr (0, [.ref q, .int (nI (p1 + 1))])), (q, .inl (k, 100, .inl (upd w p1 (f1 (i + 1))))), (h1, .inr (1, [.ref q1, .int (nI n1)])), (q1, .inl (k1, 100, .inl f1))] H := hP.sub [2, 3, 0, 1] rfl
            have hD : va_D A [(h0, .inr (0, [.ref q, .int (nI (p1 + 1))])), (q, .inl (k, 100, .inl (upd w p1 (f1 (i + 1))))), (h1, .inr (1, [.ref q1, .int (nI n1)])), (q1, .inl (k1, 100, .inl f1))] := hD.sub [2, 3, 0, 1] (by decide) rfl
            refine lv_goto (tgt := 85) hx hb dX0_readStars_49 (by decide) ?_
            refine lv_iinc (v := nI (i + 1 + 1)) (lv' := [(2, .int (nI (i + 1 + 1))), (3, .int (f1 (i))), (0, .ref h0), (1, .ref h1)]) hx hb dX0_readStars_85 hl (k := 0) rfl (nI_inc (i + 1)) (by decide) rfl (fun ls hl => ?_)
            refine lv_goto (tgt := 7) hx hb dX0_readStars_88 (by decide) ?_
            exact ih7 (i + 1 + 1) (r - 1) (p1 + 1) (acc ++ [f1 (i + 1)]) _ (by omega) (by rw [List.length_append, List.length_singleton, hp9]) (by rw [List.append_assoc, ← e9, mkL_esc z1 z0 hr9]; rfl) (hlds_add e7 hp9) (by omega) (by omega) (by omega) H locs hP hD hS ls (lv_sub hl [2, 3, 0] rfl)
  exact loop7 (n1 + 1) 0 n1 0 [] f (by omega) rfl rfl hlds_0 (Nat.le_refl _) (Nat.zero_le _) (by omega) H locs hP hD hS ls (lv_sub hl [1, 2, 0] rfl)
