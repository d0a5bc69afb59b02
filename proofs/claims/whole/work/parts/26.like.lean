abbrev rm_m_like : Room := { frames := 1, cells := 0, slots := 0, locals := 22 }
set_option maxHeartbeats 4000000 in
set_option maxRecDepth 100000 in
theorem m_like (l : Launch) (dC : Nat → ClassId) (dI : Nat → Nat → Nat) (sz : Nat) (mo mv mk ms ml mc mf mn : Nat) (jv jk js jl jc jf jn : ClassId) (fv fk gs gl gc gf gn : Nat → Int32) (nv nk sn : Nat) (th : Int32) (hv : nv ≤ 100) (hk : nk ≤ 100) (hrk : rng fk nk) (cp : Int32) : Met l yX4_like (.code yX4_like cX4_like 5 (some (.boolean)) :: wsA) rm_m_like (va_Pc [.ref mo, .int (cp)] (wr (dC, dI) [(mo, .inr (4, [.int (th), .ref mv, .ref mk, .int (nI nv), .int (nI nk), .int (nI sn), .ref ms, .ref ml, .ref mc, .int (nI 0), .ref mf, .ref mn])), (mv, .inl (jv, 100, .inl fv)), (mk, .inl (jk, 100, .inl fk)), (ms, .inl (js, 100, .inl gs)), (ml, .inl (jl, 100, .inl gl)), (mc, .inl (jc, 10201, .inl gc)), (mf, .inl (jf, 100, .inl gf)), (mn, .inl (jn, 100, .inl gn))] [(jv, .int), (jk, .int), (js, .int), (jl, .int), (jc, .boolean), (jf, .int), (jn, .int)] sz)) (va_Qi (fun (r : Int32) (u : (Nat → Int32) × (Nat → Int32) × Nat × (Nat → Int32) × (Nat → Int32) × (Nat → Int32) × Nat) => u.2.2.2.2.2.2 ≤ 100 ∧ mres (sLike fv fk nv nk cp) r u.2.2.2.2.1 u.2.2.2.2.2.1 u.2.2.2.2.2.2 ∧ (r = 0 → u.2.2.2.2.2.2 = 0)) (wB (dC, dI) (va_A [(mo, .inr (4, [.int (th), .ref mv, .ref mk, .int (nI nv), .int (nI nk), .int (nI sn), .ref ms, .ref ml, .ref mc, .int (nI 0), .ref mf, .ref mn])), (mv, .inl (jv, 100, .inl fv)), (mk, .inl (jk, 100, .inl fk)), (ms, .inl (js, 100, .inl gs)), (ml, .inl (jl, 100, .inl gl)), (mc, .inl (jc, 10201, .inl gc)), (mf, .inl (jf, 100, .inl gf)), (mn, .inl (jn, 100, .inl gn))] sz) (fun u : (Nat → Int32) × (Nat → Int32) × Nat × (Nat → Int32) × (Nat → Int32) × (Nat → Int32) × Nat => [(mo, .inr (4, [.int (th), .ref mv, .ref mk, .int (nI nv), .int (nI nk), .int (nI u.2.2.1), .ref ms, .ref ml, .ref mc, .int (nI u.2.2.2.2.2.2), .ref mf, .ref mn])), (mv, .inl (jv, 100, .inl fv)), (mk, .inl (jk, 100, .inl fk)), (ms, .inl (js, 100, .inl (u.1))), (ml, .inl (jl, 100, .inl (u.2.1))), (mc, .inl (jc, 10201, .inl (u.2.2.2.1))), (mf, .inl (jf, 100, .inl (u.2.2.2.2.1))), (mn, .inl (jn, 100, .inl (u.2.2.2.2.2.1)))])) (va_A [(mo, .inr (4, [.int (th), .ref mv, .ref mk, .int (nI nv), .int (nI nk), .int (nI sn), .ref ms, .ref ml, .ref mc, .int (nI 0), .ref mf, .ref mn])), (mv, .inl (jv, 100, .inl fv)), (mk, .inl (jk, 100, .inl fk)), (ms, .inl (js, 100, .inl gs)), (ml, .inl (jl, 100, .inl gl)), (mc, .inl (jc, 10201, .inl gc)), (mf, .inl (jf, 100, .inl gf)), (mn, .inl (jn, 100, .inl gn))] sz)) 0 0 (va_A [(mo, .inr (4, [.int (th), .ref mv, .ref mk, .int (nI nv), .int (nI nk), .int (nI sn), .ref ms, .ref ml, .ref mc, .int (nI 0), .ref mf, .ref mn])), (mv, .inl (jv, 100, .inl fv)), (mk, .inl (jk, 100, .inl fk)), (ms, .inl (js, 100, .inl gs)), (ml, .inl (jl, 100, .inl gl)), (mc, .inl (jc, 10201, .inl gc)), (mf, .inl (jf, 100, .inl gf)), (mn, .inl (jn, 100, .inl gn))] sz) := by
  refine Met.ofW (cc := cX4_like) (maxL := 5) (ret := (some (.boolean))) (by decide) rfl ?_
  intro p e s m args below meth c s₁ B hml hv
  obtain ⟨hargs, hsz, hN, hP, hK, hD0⟩ := hv
  have hx := B.exec
  have hb := B.bytes
  have hr := B.returns
  have hw : ∀ w ∈ wsA, w.before args s = true := fun w h => atoms_spec (ws := (.code yX4_like cX4_like 5 (some (.boolean)) :: wsA)) B.pre w (List.mem_cons_of_mem _ h)
  have hown : s.vm.findClass "GlobDeskModel" = some m.cls := findClass_of_methodNamed B.named
  have hlocks := B.notSynchronized
  subst hsz
  have hD := hD0.self (sz := s.heap.size)
  generalize hAe : va_A [(mo, .inr (4, [.int (th), .ref mv, .ref mk, .int (nI nv), .int (nI nk), .int (nI sn), .ref ms, .ref ml, .ref mc, .int (nI 0), .ref mf, .ref mn])), (mv, .inl (jv, 100, .inl fv)), (mk, .inl (jk, 100, .inl fk)), (ms, .inl (js, 100, .inl gs)), (ml, .inl (jl, 100, .inl gl)), (mc, .inl (jc, 10201, .inl gc)), (mf, .inl (jf, 100, .inl gf)), (mn, .inl (jn, 100, .inl gn))] s.heap.size = A at hD ⊢
  have hA : ∀ q : Nat, s.heap.size ≤ q → A q := fun q h => by rw [← hAe]; exact Or.inr h
  have hS : va_S A s.heap s.heap [] := va_S.rf
  generalize hQ : MQ below _ args s _ _ _ = Q
  change W p l e rm_m_like s m args below meth c s.heap [] 0 0 Q (entryFrame m args 5)
  have hl := lv_entry ([.ref mo, .int (cp)]) (n := 5) (Nat.le_of_ble_eq_true rfl)
  rw [show entryFrame m args 5 = entryFrame m ([.ref mo, .int (cp)] : List Value).toArray 5 from by rw [hargs], lg_entry_eq]
  generalize (lg_sl ([.ref mo, .int (cp)]) ++ List.replicate (5 - (lg_sl ([.ref mo, .int (cp)])).length) Slot.unset).toArray = ls at hl ⊢
  have hl : lv_has ls 5 [(0, .ref mo), (1, .int (cp))] := hl
  refine lv_aload_n hx hb dX4_like_0 rfl (lv_at hl 0 rfl) ?_
  have hPc := hP.sub (ws' := [(mo, .inr (4, [.int (th), .ref mv, .ref mk, .int (nI nv), .int (nI nk), .int (nI sn), .ref ms, .ref ml, .ref mc, .int (nI 0), .ref mf, .ref mn])), (mv, .inl (jv, 100, .inl fv)), (mk, .inl (jk, 100, .inl fk)), (ms, .inl (js, 100, .inl gs)), (ml, .inl (jl, 100, .inl gl)), (mc, .inl (jc, 10201, .inl gc)), (mf, .inl (jf, 100, .inl gf)), (mn, .inl (jn, 100, .inl gn))]) [0, 1, 2, 3, 4, 5, 6, 7] rfl
  have hDc := hD.sub (ws' := [(mo, .inr (4, [.int (th), .ref mv, .ref mk, .int (nI nv), .int (nI nk), .int (nI sn), .ref ms, .ref ml, .ref mc, .int (nI 0), .ref mf, .ref mn])), (mv, .inl (jv, 100, .inl fv)), (mk, .inl (jk, 100, .inl fk)), (ms, .inl (js, 100, .inl gs)), (ml, .inl (jl, 100, .inl gl)), (mc, .inl (jc, 10201, .inl gc)), (mf, .inl (jf, 100, .inl gf)), (mn, .inl (jn, 100, .inl gn))]) [0, 1, 2, 3, 4, 5, 6, 7] (by decide) rfl
  have hKc := hK.sub (tys' := [(jv, .int), (jk, .int), (js, .int), (jl, .int), (jc, .boolean), (jf, .int), (jn, .int)]) [0, 1, 2, 3, 4, 5, 6] rfl
  have hFc := va_free (wc := [(mo, .inr (4, [.int (th), .ref mv, .ref mk, .int (nI nv), .int (nI nk), .int (nI sn), .ref ms, .ref ml, .ref mc, .int (nI 0), .ref mf, .ref mn])), (mv, .inl (jv, 100, .inl fv)), (mk, .inl (jk, 100, .inl fk)), (ms, .inl (js, 100, .inl gs)), (ml, .inl (jl, 100, .inl gl)), (mc, .inl (jc, 10201, .inl gc)), (mf, .inl (jf, 100, .inl gf)), (mn, .inl (jn, 100, .inl gn))]) hD hS hA [0, 1, 2, 3, 4, 5, 6, 7] rfl
  refine va_callv (va_runV (As := []) (rest := []) ⟨hx, hb, hml, hown, hw⟩ (m_signs l dC dI s.heap.size mo mv mk ms ml mc mf mn jv jk js jl jc jf jn fv fk gs gl gc gf gn nv nk sn 0 th hv hk hrk) (cwV 0 hw (gV mw319 mw321 mw14 mw20 mw322) rfl rfl rfl (by decide +kernel) ⟨Nat.le_of_ble_eq_true rfl, Nat.le_of_ble_eq_true rfl⟩) (wr.V (q0 := 0) (ci := 4) hN hKc hPc hDc rfl rfl) rfl rfl hl.1 rfl (lv_room (Nat.le_of_ble_eq_true rfl)) dX4_like_1 ⟨Nat.le_of_ble_eq_true rfl, Nat.le_of_ble_eq_true rfl⟩) hS (fun q _ h => hFc q h) hFc (fun ur1 t H1 locs ht hvm hr1 hB hz1 hk1 hS => ?_)
  obtain ⟨w1, w2, p1⟩ := ur1
  obtain ⟨hpl, hple, hsr⟩ := hr1
  dsimp only at hpl hple hsr
  obtain ⟨hP1, hD1⟩ := hB
  rw [ht] at hP1
  obtain ⟨hP, hD⟩ := va_join (wr := []) (w1 := [(mo, .inr (4, [.int (th), .ref mv, .ref mk, .int (nI nv), .int (nI nk), .int (nI p1), .ref ms, .ref ml, .ref mc, .int (nI 0), .ref mf, .ref mn])), (mv, .inl (jv, 100, .inl fv)), (mk, .inl (jk, 100, .inl fk)), (ms, .inl (js, 100, .inl w1)), (ml, .inl (jl, 100, .inl w2)), (mc, .inl (jc, 10201, .inl gc)), (mf, .inl (jf, 100, .inl gf)), (mn, .inl (jn, 100, .inl gn))]) hP hD [0, 1, 2, 3, 4, 5, 6, 7] [] rfl rfl (by decide) (by decide) hk1 hFc hP1 hD1
  generalize H1 = H at hP hS ⊢
  have hP : va_P (dC, dI) cl5 [(mo, .inr (4, [.int (th), .ref mv, .ref mk, .int (nI nv), .int (nI nk), .int (nI p1), .ref ms, .ref ml, .ref mc, .int (nI 0), .ref mf, .ref mn])), (mv, .inl (jv, 100, .inl fv)), (mk, .inl (jk, 100, .inl fk)), (ms, .inl (js, 100, .inl w1)), (ml, .inl (jl, 100, .inl w2)), (mc, .inl (jc, 10201, .inl gc)), (mf, .inl (jf, 100, .inl gf)), (mn, .inl (jn, 100, .inl gn))] H := hP.sub [0, 1, 2, 3, 4, 5, 6, 7] rfl
  have hD : va_D A [(mo, .inr (4, [.int (th), .ref mv, .ref mk, .int (nI nv), .int (nI nk), .int (nI p1), .ref ms, .ref ml, .ref mc, .int (nI 0), .ref mf, .ref mn])), (mv, .inl (jv, 100, .inl fv)), (mk, .inl (jk, 100, .inl fk)), (ms, .inl (js, 100, .inl w1)), (ml, .inl (jl, 100, .inl w2)), (mc, .inl (jc, 10201, .inl gc)), (mf, .inl (jf, 100, .inl gf)), (mn, .inl (jn, 100, .inl gn))] := hD.sub [0, 1, 2, 3, 4, 5, 6, 7] (by decide) rfl
  refine lv_aload_n hx hb dX4_like_4 rfl (lv_at hl 0 rfl) ?_
  refine va_get (D := (dC, dI)) (ci := 4) (v := .int (nI p1)) (C := RX4) (T := TX4) (N := 12) hx hb hw inX4 hown hK hP 0 rfl rfl 5 (by decide) (hw _ mw249) (fun _ h9 => h9) rfl dX4_like_5 ?_
  refine lv_topi (fun x2 ex2 => ?_)
  obtain rfl : x2 = (nI (p1 + 1)) - (1) := by rw [ex2]; exact (nI_pred p1).symm
  refine lv_istore_n (lv' := [(2, .int ((nI (p1 + 1)) - (1))), (0, .ref mo), (1, .int (cp))]) hx hb dX4_like_8 rfl hl (by decide) rfl (fun ls hl => ?_)
  have loop9 : ∀ (nn9 : Nat) (k9 : Nat) (w3 : Nat → Int32) (hk9 : k9 ≤ p1 + 1) (hd : dnR (mkF fk nk) fv p1 nv cp w3 k9) (_ : k9 < nn9) (H : Heap) (locs : List Loc) (_ : va_P (dC, dI) cl5 [(mo, .inr (4, [.int (th), .ref mv, .ref mk, .int (nI nv), .int (nI nk), .int (nI p1), .ref ms, .ref ml, .ref mc, .int (nI 0), .ref mf, .ref mn])), (mv, .inl (jv, 100, .inl fv)), (mk, .inl (jk, 100, .inl fk)), (ms, .inl (js, 100, .inl w1)), (ml, .inl (jl, 100, .inl w2)), (mc, .inl (jc, 10201, .inl w3)), (mf, .inl (jf, 100, .inl gf)), (mn, .inl (jn, 100, .inl gn))] H) (_ : va_D A [(mo, .inr (4, [.int (th), .ref mv, .ref mk, .int (nI nv), .int (nI nk), .int (nI p1), .ref ms, .ref ml, .ref mc, .int (nI 0), .ref mf, .ref mn])), (mv, .inl (jv, 100, .inl fv)), (mk, .inl (jk, 100, .inl fk)), (ms, .inl (js, 100, .inl w1)), (ml, .inl (jl, 100, .inl w2)), (mc, .inl (jc, 10201, .inl w3)), (mf, .inl (jf, 100, .inl gf)), (mn, .inl (jn, 100, .inl gn))]) (_ : va_S A s.heap H locs) (ls : Array Slot) (_ : lv_has ls 5 [(0, .ref mo), (1, .int (cp)), (2, .int ((nI k9) - (1)))]), W p l e rm_m_like s m args below meth c H locs 0 0 Q (F0 m 9 ls []) := by
    intro nn9
    induction nn9 with
    | zero => intro k9 w3 hk9 hd hm9 H locs hP hD hS ls hl; exact absurd hm9 (Nat.not_lt_zero _)
    | succ nn9 ih9 =>
      intro k9 w3 hk9 hd hm9 H locs hP hD hS ls hl
      refine lv_iload_n hx hb dX4_like_9 rfl (lv_at hl 2 rfl) ?_
      refine lv_if_lt (tgt := 212) hx hb dX4_like_10 (by decide) (fun c10_2 => ?_) (fun c10_2 => ?_)
      · skip
        have e0 := nI_m1n (by omega) c10_2
        refine lv_aload_n hx hb dX4_like_212 rfl (lv_at hl 0 rfl) ?_
        refine va_get (D := (dC, dI)) (ci := 4) (v := .ref mc) (C := RX4) (T := TX4) (N := 12) hx hb hw inX4 hown hK hP 0 rfl rfl 8 (by decide) (hw _ mw252) (fun _ h9 => h9) rfl dX4_like_213 ?_
        refine lv_iconst (v := 0) hx hb dX4_like_216 (by decide) ?_
        refine lv_topi (fun x4 ex4 => ?_)
        obtain rfl : x4 = nI 0 := by rw [ex4]; exact nI_0.symm
        refine va_zald hx hb hK hP 5 4 rfl rfl (i := (nI 0)) (vp_in_nI (by omega) (by omega)) dX4_like_217 ?_
        refine lv_topi (fun x5 ex5 => ?_)
        obtain rfl : x5 = w3 0 := by rw [ex5, nI_clamp (by omega)]
        refine lv_if_ne (tgt := 223) hx hb dX4_like_218 (by decide) (fun c218_5 => ?_) (fun c218_5 => ?_)
        · skip
          have im0 := cel_t (s := 0) (x := 0) (i := 0) rfl (hd 0 0 (by omega) (Nat.zero_le _) (Nat.zero_le _)) c218_5
          refine lv_iconst (v := 0) hx hb dX4_like_223 (by decide) ?_
          refine lv_topi (fun x7 ex7 => ?_)
          obtain rfl : x7 = nI 0 := by rw [ex7]; exact nI_0.symm
          refine lv_istore_n (lv' := [(2, .int (nI 0)), (0, .ref mo), (1, .int (cp))]) hx hb dX4_like_224 rfl hl (by decide) rfl (fun ls hl => ?_)
          refine lv_iconst (v := 0) hx hb dX4_like_225 (by decide) ?_
          refine lv_topi (fun x8 ex8 => ?_)
          obtain rfl : x8 = nI 0 := by rw [ex8]; exact nI_0.symm
          refine lv_istore_n (lv' := [(3, .int (nI 0)), (2, .int (nI 0)), (0, .ref mo), (1, .int (cp))]) hx hb dX4_like_226 rfl hl (by decide) rfl (fun ls hl => ?_)
          have loop227 : ∀ (nn227 : Nat) (i x ct9 : Nat) (s1 s2 : Nat → Int32) (acc : List (Nat × Nat)) (hi : i ≤ p1) (hxv : x ≤ nv) (hct : ct9 ≤ i) (im : mtI (mkF fk nk) fv p1 nv cp i x) (isp : ∀ L, spI (mkF fk nk) fv p1 nv cp i x L → spI (mkF fk nk) fv p1 nv cp 0 0 (acc ++ L)) (i3 : spIs s1 s2 ct9 acc) (_ : p1 - i < nn227) (H : Heap) (locs : List Loc) (_ : va_P (dC, dI) cl5 [(mo, .inr (4, [.int (th), .ref mv, .ref mk, .int (nI nv), .int (nI nk), .int (nI p1), .ref ms, .ref ml, .ref mc, .int (nI ct9), .ref mf, .ref mn])), (mv, .inl (jv, 100, .inl fv)), (mk, .inl (jk, 100, .inl fk)), (ms, .inl (js, 100, .inl w1)), (ml, .inl (jl, 100, .inl w2)), (mc, .inl (jc, 10201, .inl w3)), (mf, .inl (jf, 100, .inl s1)), (mn, .inl (jn, 100, .inl s2))] H) (_ : va_D A [(mo, .inr (4, [.int (th), .ref mv, .ref mk, .int (nI nv), .int (nI nk), .int (nI p1), .ref ms, .ref ml, .ref mc, .int (nI ct9), .ref mf, .ref mn])), (mv, .inl (jv, 100, .inl fv)), (mk, .inl (jk, 100, .inl fk)), (ms, .inl (js, 100, .inl w1)), (ml, .inl (jl, 100, .inl w2)), (mc, .inl (jc, 10201, .inl w3)), (mf, .inl (jf, 100, .inl s1)), (mn, .inl (jn, 100, .inl s2))]) (_ : va_S A s.heap H locs) (ls : Array Slot) (_ : lv_has ls 5 [(0, .ref mo), (2, .int (nI x)), (3, .int (nI i))]), W p l e rm_m_like s m args below meth c H locs 0 0 Q (F0 m 227 ls []) := by
            intro nn227
            induction nn227 with
            | zero => intro i x ct9 s1 s2 acc hi hxv hct im isp i3 hm227 H locs hP hD hS ls hl; exact absurd hm227 (Nat.not_lt_zero _)
            | succ nn227 ih227 =>
              intro i x ct9 s1 s2 acc hi hxv hct im isp i3 hm227 H locs hP hD hS ls hl
              refine lv_iload_n hx hb dX4_like_227 rfl (lv_at hl 2 rfl) ?_
              refine lv_aload_n hx hb dX4_like_228 rfl (lv_at hl 0 rfl) ?_
              refine va_get (D := (dC, dI)) (ci := 4) (v := .int (nI p1)) (C := RX4) (T := TX4) (N := 12) hx hb hw inX4 hown hK hP 0 rfl rfl 5 (by decide) (hw _ mw249) (fun _ h9 => h9) rfl dX4_like_229 ?_
              refine lv_icmp_ge (tgt := 320) hx hb dX4_like_232 (by decide) (fun c232_8 => ?_) (fun c232_8 => ?_)
              · skip
                rw [ti_le, nI_toInt (by omega), nI_toInt (by omega)] at c232_8
                have e8 : i = p1 := by omega
                refine lv_iconst (v := 1) hx hb dX4_like_320 (by decide) ?_
                subst hQ
                exact W.zret (v := 1) hx hb hr (by decide) (fun t ht hW => ⟨⟨_, (w1, w2, p1, w3, s1, s2, ct9), rfl, ⟨by show ct9 ≤ 100; omega, Or.inl ⟨rfl, acc, lkm_yes hpl e8 im0 isp, i3⟩, fun h => absurd h (by decide)⟩, by rw [ht]; exact hP, hD⟩, hS.F ht⟩) hS.2.2 dX4_like_321
              · skip
                rw [ti_le, nI_toInt (by omega), nI_toInt (by omega)] at c232_8
                have hlt : i < p1 := by omega
                refine lv_aload_n hx hb dX4_like_235 rfl (lv_at hl 0 rfl) ?_
                refine va_get (D := (dC, dI)) (ci := 4) (v := .ref ms) (C := RX4) (T := TX4) (N := 12) hx hb hw inX4 hown hK hP 0 rfl rfl 6 (by decide) (hw _ mw250) (fun _ h9 => h9) rfl dX4_like_236 ?_
                refine lv_iload_n hx hb dX4_like_239 rfl (lv_at hl 2 rfl) ?_
                refine va_iald hx hb hK hP 3 2 rfl rfl (i := (nI i)) (vp_in_nI (by omega) (by omega)) dX4_like_240 ?_
                refine lv_topi (fun x10 ex10 => ?_)
                obtain rfl : x10 = w1 i := by rw [ex10, nI_clamp (by omega)]
                refine lv_iconst (v := 2) hx hb dX4_like_241 (by decide) ?_
                refine lv_icmp_ne (tgt := 311) hx hb dX4_like_242 (by decide) (fun c242_10 => ?_) (fun c242_10 => ?_)
                · skip
                  have zst := srel_n2 (hsr i hlt) c242_10
                  have on := (mtI_one hlt zst).mp im
                  refine lv_iinc (v := nI (x + 1)) (lv' := [(2, .int (nI (x + 1))), (0, .ref mo), (3, .int (nI i))]) hx hb dX4_like_311 hl (k := 1) rfl (nI_inc x) (by decide) rfl (fun ls hl => ?_)
                  refine lv_iinc (v := nI (i + 1)) (lv' := [(3, .int (nI (i + 1))), (2, .int (nI (x + 1))), (0, .ref mo)]) hx hb dX4_like_314 hl (k := 2) rfl (nI_inc i) (by decide) rfl (fun ls hl => ?_)
                  refine lv_goto (tgt := 227) hx hb dX4_like_317 (by decide) ?_
                  exact ih227 (i + 1) (x + 1) ct9 s1 s2 acc (by omega) (by have := on.1; omega) (by omega) on.2.2 (fun L h => isp L ((spI_one hlt zst).mpr h)) i3 (by omega) H locs hP hD hS ls (lv_sub hl [2, 1, 0] rfl)
                · skip
                  have zst := srel_2 (hsr i hlt) (by first | exact c242_10 | exact Decidable.not_not.mp c242_10)
                  obtain ⟨K9, kx, kn9, km⟩ := (mtI_star hlt zst).mp im
                  refine lv_aload_n hx hb dX4_like_245 rfl (lv_at hl 0 rfl) ?_
                  refine va_get (D := (dC, dI)) (ci := 4) (v := .ref mf) (C := RX4) (T := TX4) (N := 12) hx hb hw inX4 hown hK hP 0 rfl rfl 10 (by decide) (hw _ mw254) (fun _ h9 => h9) rfl dX4_like_246 ?_
                  refine lv_aload_n hx hb dX4_like_249 rfl (lv_at hl 0 rfl) ?_
                  refine va_get (D := (dC, dI)) (ci := 4) (v := .int (nI ct9)) (C := RX4) (T := TX4) (N := 12) hx hb hw inX4 hown hK hP 0 rfl rfl 9 (by decide) (hw _ mw253) (fun _ h9 => h9) rfl dX4_like_250 ?_
                  refine lv_iload_n hx hb dX4_like_253 rfl (lv_at hl 1 rfl) ?_
                  refine va_iast hx hb hK hP hD hS 6 5 rfl rfl (i := (nI ct9)) (vp_in_nI (by omega) (by omega)) dX4_like_254 (fun H locs hP hD hS => ?_)
                  rw [nI_clamp (by omega)] at hP hD
                  have hP : va_P (dC, dI) cl5 [(mo, .inr (4, [.int (th), .ref mv, .ref mk, .int (nI nv), .int (nI nk), .int (nI p1), .ref ms, .ref ml, .ref mc, .int (nI ct9), .ref mf, .ref mn])), (mv, .inl (jv, 100, .inl fv)), (mk, .inl (jk, 100, .inl fk)), (ms, .inl (js, 100, .inl w1)), (ml, .inl (jl, 100, .inl w2)), (mc, .inl (jc, 10201, .inl w3)), (mf, .inl (jf, 100, .inl (upd s1 ct9 (nI x)))), (mn, .inl (jn, 100, .inl s2))] H := hP
                  have hD : va_D A [(mo, .inr (4, [.int (th), .ref mv, .ref mk, .int (nI nv), .int (nI nk), .int (nI p1), .ref ms, .ref ml, .ref mc, .int (nI ct9), .ref mf, .ref mn])), (mv, .inl (jv, 100, .inl fv)), (mk, .inl (jk, 100, .inl fk)), (ms, .inl (js, 100, .inl w1)), (ml, .inl (jl, 100, .inl w2)), (mc, .inl (jc, 10201, .inl w3)), (mf, .inl (jf, 100, .inl (upd s1 ct9 (nI x)))), (mn, .inl (jn, 100, .inl s2))] := hD
                  have loop255 : ∀ (nn255 : Nat) (y : Nat) (hxy : x ≤ y) (hyn : ∀ t, x ≤ t → t < y → ¬ mtI (mkF fk nk) fv p1 nv cp (i + 1) t) (hyk : y ≤ K9) (_ : K9 - y < nn255) (ls : Array Slot) (_ : lv_has ls 5 [(0, .ref mo), (2, .int (nI y)), (3, .int (nI i))]), W p l e rm_m_like s m args below meth c H locs 0 0 Q (F0 m 255 ls []) := by
                    intro nn255
                    induction nn255 with
                    | zero => intro y hxy hyn hyk hm255 ls hl; exact absurd hm255 (Nat.not_lt_zero _)
                    | succ nn255 ih255 =>
                      intro y hxy hyn hyk hm255 ls hl
                      refine lv_aload_n hx hb dX4_like_255 rfl (lv_at hl 0 rfl) ?_
                      refine va_get (D := (dC, dI)) (ci := 4) (v := .ref mc) (C := RX4) (T := TX4) (N := 12) hx hb hw inX4 hown hK hP 0 rfl rfl 8 (by decide) (hw _ mw252) (fun _ h9 => h9) rfl dX4_like_256 ?_
                      refine lv_bipush (v := 101) hx hb dX4_like_259 (by decide) ?_
                      refine lv_iload_n hx hb dX4_like_261 rfl (lv_at hl 2 rfl) ?_
                      refine lv_imul hx hb dX4_like_262 ?_
                      refine lv_topi (fun x12 ex12 => ?_)
                      obtain rfl : x12 = nI (101 * i) := by rw [ex12]; exact pk_mul 101 i
                      refine lv_bipush (v := 101) hx hb dX4_like_263 (by decide) ?_
                      refine lv_iadd hx hb dX4_like_265 ?_
                      refine lv_topi (fun x13 ex13 => ?_)
                      obtain rfl : x13 = nI (101 * i + 101) := by rw [ex13]; exact nI_add (101 * i) 101
                      refine lv_iload_n hx hb dX4_like_266 rfl (lv_at hl 1 rfl) ?_
                      refine lv_iadd hx hb dX4_like_267 ?_
                      refine lv_topi (fun x14 ex14 => ?_)
                      obtain rfl : x14 = nI (101 * i + 101 + y) := by rw [ex14]; exact nI_add (101 * i + 101) y
                      refine va_zald hx hb hK hP 5 4 rfl rfl (i := (nI (101 * i + 101 + y))) (vp_in_nI (by omega) (by omega)) dX4_like_268 ?_
                      refine lv_topi (fun x15 ex15 => ?_)
                      obtain rfl : x15 = w3 (101 * i + 101 + y) := by rw [ex15, nI_clamp (by omega)]
                      refine lv_if_ne (tgt := 278) hx hb dX4_like_269 (by decide) (fun c269_15 => ?_) (fun c269_15 => ?_)
                      · skip
                        have ym := cel_t (i := 101 * i + 101 + y) (by omega) (hd (i + 1) y (by omega) (by omega) (by omega)) c269_15
                        refine lv_aload_n hx hb dX4_like_278 rfl (lv_at hl 0 rfl) ?_
                        refine va_get (D := (dC, dI)) (ci := 4) (v := .ref mn) (C := RX4) (T := TX4) (N := 12) hx hb hw inX4 hown hK hP 0 rfl rfl 11 (by decide) (hw _ mw255) (fun _ h9 => h9) rfl dX4_like_279 ?_
                        refine lv_aload_n hx hb dX4_like_282 rfl (lv_at hl 0 rfl) ?_
                        refine va_get (D := (dC, dI)) (ci := 4) (v := .int (nI ct9)) (C := RX4) (T := TX4) (N := 12) hx hb hw inX4 hown hK hP 0 rfl rfl 9 (by decide) (hw _ mw253) (fun _ h9 => h9) rfl dX4_like_283 ?_
                        refine lv_iload_n hx hb dX4_like_286 rfl (lv_at hl 1 rfl) ?_
                        refine lv_aload_n hx hb dX4_like_287 rfl (lv_at hl 0 rfl) ?_
                        refine va_get (D := (dC, dI)) (ci := 4) (v := .ref mf) (C := RX4) (T := TX4) (N := 12) hx hb hw inX4 hown hK hP 0 rfl rfl 10 (by decide) (hw _ mw254) (fun _ h9 => h9) rfl dX4_like_288 ?_
                        refine lv_aload_n hx hb dX4_like_291 rfl (lv_at hl 0 rfl) ?_
                        refine va_get (D := (dC, dI)) (ci := 4) (v := .int (nI ct9)) (C := RX4) (T := TX4) (N := 12) hx hb hw inX4 hown hK hP 0 rfl rfl 9 (by decide) (hw _ mw253) (fun _ h9 => h9) rfl dX4_like_292 ?_
                        refine va_iald hx hb hK hP 6 5 rfl rfl (i := (nI ct9)) (vp_in_nI (by omega) (by omega)) dX4_like_295 ?_
                        refine lv_topi (fun x17 ex17 => ?_)
                        obtain rfl : x17 = (upd s1 ct9 (nI x)) ct9 := by rw [ex17, nI_clamp (by omega)]
                        refine lv_topi (fun x18 ex18 => ?_)
                        obtain rfl : x18 = nI x := by rw [ex18]; exact pk_us
                        refine lv_isub hx hb dX4_like_296 ?_
                        refine lv_topi (fun x19 ex19 => ?_)
                        obtain rfl : x19 = nI (y - x) := by rw [ex19]; exact pk_sub hxy
                        refine va_iast hx hb hK hP hD hS 7 6 rfl rfl (i := (nI ct9)) (vp_in_nI (by omega) (by omega)) dX4_like_297 (fun H locs hP hD hS => ?_)
                        rw [nI_clamp (by omega)] at hP hD
                        have hP : va_P (dC, dI) cl5 [(mo, .inr (4, [.int (th), .ref mv, .ref mk, .int (nI nv), .int (nI nk), .int (nI p1), .ref ms, .ref ml, .ref mc, .int (nI ct9), .ref mf, .ref mn])), (mv, .inl (jv, 100, .inl fv)), (mk, .inl (jk, 100, .inl fk)), (ms, .inl (js, 100, .inl w1)), (ml, .inl (jl, 100, .inl w2)), (mc, .inl (jc, 10201, .inl w3)), (mf, .inl (jf, 100, .inl (upd s1 ct9 (nI x)))), (mn, .inl (jn, 100, .inl (upd s2 ct9 (nI (y - x)))))] H := hP
                        have hD : va_D A [(mo, .inr (4, [.int (th), .ref mv, .ref mk, .int (nI nv), .int (nI nk), .int (nI p1), .ref ms, .ref ml, .ref mc, .int (nI ct9), .ref mf, .ref mn])), (mv, .inl (jv, 100, .inl fv)), (mk, .inl (jk, 100, .inl fk)), (ms, .inl (js, 100, .inl w1)), (ml, .inl (jl, 100, .inl w2)), (mc, .inl (jc, 10201, .inl w3)), (mf, .inl (jf, 100, .inl (upd s1 ct9 (nI x)))), (mn, .inl (jn, 100, .inl (upd s2 ct9 (nI (y - x)))))] := hD
                        refine lv_aload_n hx hb dX4_like_298 rfl (lv_at hl 0 rfl) ?_
                        refine lv_dup hx hb dX4_like_299 rfl ?_
                        refine va_get (D := (dC, dI)) (ci := 4) (v := .int (nI ct9)) (C := RX4) (T := TX4) (N := 12) hx hb hw inX4 hown hK hP 0 rfl rfl 9 (by decide) (hw _ mw253) (fun _ h9 => h9) rfl dX4_like_300 ?_
                        refine lv_iconst (v := 1) hx hb dX4_like_303 (by decide) ?_
                        refine lv_iadd hx hb dX4_like_304 ?_
                        refine lv_topi (fun x20 ex20 => ?_)
                        obtain rfl : x20 = nI (ct9 + 1) := by rw [ex20]; exact nI_add (ct9) 1
                        refine va_put (D := (dC, dI)) (ci := 4) (v := .int (nI (ct9 + 1))) (ty := .int) (C := RX4) (T := TX4) (N := 12) hx hb hw inX4 tyX4 tyX4_ok nmX4 hown hK hP hD hS 0 rfl rfl 9 (by decide) (hw _ mw253) (fun _ h9 => h9) rfl (by decide +kernel) rfl rfl (Nat.le_of_ble_eq_true rfl) dX4_like_305 (fun H locs hP hD hS => ?_)
                        have hP : va_P (dC, dI) cl5 [(mo, .inr (4, [.int (th), .ref mv, .ref mk, .int (nI nv), .int (nI nk), .int (nI p1), .ref ms, .ref ml, .ref mc, .int (nI (ct9 + 1)), .ref mf, .ref mn])), (mv, .inl (jv, 100, .inl fv)), (mk, .inl (jk, 100, .inl fk)), (ms, .inl (js, 100, .inl w1)), (ml, .inl (jl, 100, .inl w2)), (mc, .inl (jc, 10201, .inl w3)), (mf, .inl (jf, 100, .inl (upd s1 ct9 (nI x)))), (mn, .inl (jn, 100, .inl (upd s2 ct9 (nI (y - x)))))] H := hP
                        have hD : va_D A [(mo, .inr (4, [.int (th), .ref mv, .ref mk, .int (nI nv), .int (nI nk), .int (nI p1), .ref ms, .ref ml, .ref mc, .int (nI (ct9 + 1)), .ref mf, .ref mn])), (mv, .inl (jv, 100, .inl fv)), (mk, .inl (jk, 100, .inl fk)), (ms, .inl (js, 100, .inl w1)), (ml, .inl (jl, 100, .inl w2)), (mc, .inl (jc, 10201, .inl w3)), (mf, .inl (jf, 100, .inl (upd s1 ct9 (nI x)))), (mn, .inl (jn, 100, .inl (upd s2 ct9 (nI (y - x)))))] := hD
                        refine lv_goto (tgt := 314) hx hb dX4_like_308 (by decide) ?_
                        refine lv_iinc (v := nI (i + 1)) (lv' := [(3, .int (nI (i + 1))), (0, .ref mo), (2, .int (nI y))]) hx hb dX4_like_314 hl (k := 2) rfl (nI_inc i) (by decide) rfl (fun ls hl => ?_)
                        refine lv_goto (tgt := 227) hx hb dX4_like_317 (by decide) ?_
                        exact ih227 (i + 1) y (ct9 + 1) _ _ (acc ++ [(x, y - x)]) (by omega) (by omega) (by omega) ym (fun L h => by rw [List.append_assoc]; exact isp _ ((spI_star hlt zst).mpr ⟨y, L, rfl, hxy, ym, hyn, h⟩)) (spIs_add i3) (by omega) H locs hP hD hS ls (lv_sub hl [1, 2, 0] rfl)
                      · skip
                        have ym := cel_f (i := 101 * i + 101 + y) (by omega) (hd (i + 1) y (by omega) (by omega) (by omega)) (by first | exact c269_15 | exact Decidable.not_not.mp c269_15)
                        have yk : ¬ y = K9 := fun q => ym (by rw [q]; exact km)
                        refine lv_iinc (v := nI (y + 1)) (lv' := [(2, .int (nI (y + 1))), (0, .ref mo), (3, .int (nI i))]) hx hb dX4_like_272 hl (k := 1) rfl (nI_inc y) (by decide) rfl (fun ls hl => ?_)
                        refine lv_goto (tgt := 255) hx hb dX4_like_275 (by decide) ?_
                        exact ih255 (y + 1) (by omega) (fun t a b => by by_cases q : t = y <;> first | (subst q; exact ym) | exact hyn t a (by omega)) (by omega) (by omega) ls (lv_sub hl [1, 0, 2] rfl)
                  exact loop255 (K9 - x + 1) x (Nat.le_refl _) (fun t a b => by omega) kx (by omega) ls (lv_sub hl [0, 1, 2] rfl)
          exact loop227 (p1 + 1) 0 0 0 gf gn [] (Nat.zero_le _) (Nat.zero_le _) (Nat.zero_le _) im0 (fun L h => h) spIs_0 (by omega) H locs hP hD hS ls (lv_sub hl [2, 1, 0] rfl)
        · skip
          have im0 := cel_f (s := 0) (x := 0) (i := 0) rfl (hd 0 0 (by omega) (Nat.zero_le _) (Nat.zero_le _)) (by first | exact c218_5 | exact Decidable.not_not.mp c218_5)
          refine lv_iconst (v := 0) hx hb dX4_like_221 (by decide) ?_
          subst hQ
          exact W.zret (v := 0) hx hb hr (by decide) (fun t ht hW => ⟨⟨_, (w1, w2, p1, w3, gf, gn, 0), rfl, ⟨Nat.zero_le _, Or.inr ⟨rfl, lkm_no hpl im0⟩, fun _ => rfl⟩, by rw [ht]; exact hP, hD⟩, hS.F ht⟩) hS.2.2 dX4_like_222
      · skip
        obtain ⟨j, rfl⟩ := nI_m1_pos c10_2
        rw [nI_pred] at hl
        refine lv_aload_n hx hb dX4_like_13 rfl (lv_at hl 0 rfl) ?_
        refine va_get (D := (dC, dI)) (ci := 4) (v := .int (nI nv)) (C := RX4) (T := TX4) (N := 12) hx hb hw inX4 hown hK hP 0 rfl rfl 3 (by decide) (hw _ mw247) (fun _ h9 => h9) rfl dX4_like_14 ?_
        refine lv_topi (fun x21 ex21 => ?_)
        obtain rfl : x21 = (nI (nv + 1)) - (1) := by rw [ex21]; exact (nI_pred nv).symm
        refine lv_istore_n (lv' := [(3, .int ((nI (nv + 1)) - (1))), (0, .ref mo), (1, .int (cp)), (2, .int (nI j))]) hx hb dX4_like_17 rfl hl (by decide) rfl (fun ls hl => ?_)
        have loop18 : ∀ (nn18 : Nat) (l9 : Nat) (w4 : Nat → Int32) (hl9 : l9 ≤ nv + 1) (hd1 : dnR (mkF fk nk) fv p1 nv cp w4 (j + 1)) (hd2 : dnC (mkF fk nk) fv p1 nv cp w4 j l9) (_ : l9 < nn18) (H : Heap) (locs : List Loc) (_ : va_P (dC, dI) cl5 [(mo, .inr (4, [.int (th), .ref mv, .ref mk, .int (nI nv), .int (nI nk), .int (nI p1), .ref ms, .ref ml, .ref mc, .int (nI 0), .ref mf, .ref mn])), (mv, .inl (jv, 100, .inl fv)), (mk, .inl (jk, 100, .inl fk)), (ms, .inl (js, 100, .inl w1)), (ml, .inl (jl, 100, .inl w2)), (mc, .inl (jc, 10201, .inl w4)), (mf, .inl (jf, 100, .inl gf)), (mn, .inl (jn, 100, .inl gn))] H) (_ : va_D A [(mo, .inr (4, [.int (th), .ref mv, .ref mk, .int (nI nv), .int (nI nk), .int (nI p1), .ref ms, .ref ml, .ref mc, .int (nI 0), .ref mf, .ref mn])), (mv, .inl (jv, 100, .inl fv)), (mk, .inl (jk, 100, .inl fk)), (ms, .inl (js, 100, .inl w1)), (ml, .inl (jl, 100, .inl w2)), (mc, .inl (jc, 10201, .inl w4)), (mf, .inl (jf, 100, .inl gf)), (mn, .inl (jn, 100, .inl gn))]) (_ : va_S A s.heap H locs) (ls : Array Slot) (_ : lv_has ls 5 [(0, .ref mo), (1, .int (cp)), (2, .int (nI j)), (3, .int ((nI l9) - (1)))]), W p l e rm_m_like s m args below meth c H locs 0 0 Q (F0 m 18 ls []) := by
          intro nn18
          induction nn18 with
          | zero => intro l9 w4 hl9 hd1 hd2 hm18 H locs hP hD hS ls hl; exact absurd hm18 (Nat.not_lt_zero _)
          | succ nn18 ih18 =>
            intro l9 w4 hl9 hd1 hd2 hm18 H locs hP hD hS ls hl
            refine lv_iload_n hx hb dX4_like_18 rfl (lv_at hl 3 rfl) ?_
            refine lv_if_lt (tgt := 206) hx hb dX4_like_19 (by decide) (fun c19_21 => ?_) (fun c19_21 => ?_)
            · skip
              have e1 := nI_m1n (by omega) c19_21
              refine lv_iinc (v := (nI j) - (1)) (lv' := [(2, .int ((nI j) - (1))), (0, .ref mo), (1, .int (cp)), (3, .int ((nI l9) - (1)))]) hx hb dX4_like_206 hl (k := 2) rfl (nI_dec j) (by decide) rfl (fun ls hl => ?_)
              refine lv_goto (tgt := 9) hx hb dX4_like_209 (by decide) ?_
              exact ih9 j w4 (by omega) (dn_row e1 hd1 hd2) (by omega) H locs hP hD hS ls (lv_sub hl [1, 2, 0] rfl)
            · skip
              obtain ⟨x, rfl⟩ := nI_m1_pos c19_21
              rw [nI_pred] at hl
              refine lv_iload_n hx hb dX4_like_22 rfl (lv_at hl 2 rfl) ?_
              refine lv_aload_n hx hb dX4_like_23 rfl (lv_at hl 0 rfl) ?_
              refine va_get (D := (dC, dI)) (ci := 4) (v := .int (nI p1)) (C := RX4) (T := TX4) (N := 12) hx hb hw inX4 hown hK hP 0 rfl rfl 5 (by decide) (hw _ mw249) (fun _ h9 => h9) rfl dX4_like_24 ?_
              refine lv_icmp_ne (tgt := 42) hx hb dX4_like_27 (by decide) (fun c27_22 => ?_) (fun c27_22 => ?_)
              · skip
                have zj : ¬ j = p1 := fun q => c27_22 (by rw [q])
                refine lv_iconst (v := 0) hx hb dX4_like_42 (by decide) ?_
                refine lv_istore (lv' := [(4, .int (0)), (0, .ref mo), (1, .int (cp)), (2, .int (nI j)), (3, .int (nI x))]) hx hb dX4_like_43 hl (by decide) rfl (fun ls hl => ?_)
                refine lv_iload_n hx hb dX4_like_45 rfl (lv_at hl 3 rfl) ?_
                refine lv_aload_n hx hb dX4_like_46 rfl (lv_at hl 1 rfl) ?_
                refine va_get (D := (dC, dI)) (ci := 4) (v := .int (nI p1)) (C := RX4) (T := TX4) (N := 12) hx hb hw inX4 hown hK hP 0 rfl rfl 5 (by decide) (hw _ mw249) (fun _ h9 => h9) rfl dX4_like_47 ?_
                refine lv_icmp_ge (tgt := 114) hx hb dX4_like_50 (by decide) (fun c50_23 => ?_) (fun c50_23 => ?_)
                · skip
                  rw [ti_le, nI_toInt (by omega), nI_toInt (by omega)] at c50_23
                  omega
                · skip
                  rw [ti_le, nI_toInt (by omega), nI_toInt (by omega)] at c50_23
                  have hjp : j < p1 := by omega
                  refine lv_aload_n hx hb dX4_like_53 rfl (lv_at hl 1 rfl) ?_
                  refine va_get (D := (dC, dI)) (ci := 4) (v := .ref ms) (C := RX4) (T := TX4) (N := 12) hx hb hw inX4 hown hK hP 0 rfl rfl 6 (by decide) (hw _ mw250) (fun _ h9 => h9) rfl dX4_like_54 ?_
                  refine lv_iload_n hx hb dX4_like_57 rfl (lv_at hl 3 rfl) ?_
                  refine va_iald hx hb hK hP 3 2 rfl rfl (i := (nI j)) (vp_in_nI (by omega) (by omega)) dX4_like_58 ?_
                  refine lv_topi (fun x25 ex25 => ?_)
                  obtain rfl : x25 = w1 j := by rw [ex25, nI_clamp (by omega)]
                  refine lv_iconst (v := 2) hx hb dX4_like_59 (by decide) ?_
                  refine lv_icmp_ne (tgt := 114) hx hb dX4_like_60 (by decide) (fun c60_25 => ?_) (fun c60_25 => ?_)
                  · skip
                    have zs2 := c60_25
                    have zst := srel_n2 (hsr j hjp) zs2
                    refine lv_iload_n hx hb dX4_like_114 rfl (lv_at hl 3 rfl) ?_
                    refine lv_aload_n hx hb dX4_like_115 rfl (lv_at hl 1 rfl) ?_
                    refine va_get (D := (dC, dI)) (ci := 4) (v := .int (nI p1)) (C := RX4) (T := TX4) (N := 12) hx hb hw inX4 hown hK hP 0 rfl rfl 5 (by decide) (hw _ mw249) (fun _ h9 => h9) rfl dX4_like_116 ?_
                    refine lv_icmp_ge (tgt := 187) hx hb dX4_like_119 (by decide) (fun c119_26 => ?_) (fun c119_26 => ?_)
                    · skip
                      rw [ti_le, nI_toInt (by omega), nI_toInt (by omega)] at c119_26
                      omega
                    · skip
                      rw [ti_le, nI_toInt (by omega), nI_toInt (by omega)] at c119_26
                      refine lv_iload_n hx hb dX4_like_122 rfl (lv_at hl 4 rfl) ?_
                      refine lv_aload_n hx hb dX4_like_123 rfl (lv_at hl 1 rfl) ?_
                      refine va_get (D := (dC, dI)) (ci := 4) (v := .int (nI nv)) (C := RX4) (T := TX4) (N := 12) hx hb hw inX4 hown hK hP 0 rfl rfl 3 (by decide) (hw _ mw247) (fun _ h9 => h9) rfl dX4_like_124 ?_
                      refine lv_icmp_ge (tgt := 187) hx hb dX4_like_127 (by decide) (fun c127_27 => ?_) (fun c127_27 => ?_)
                      · skip
                        rw [ti_le, nI_toInt (by omega), nI_toInt (by omega)] at c127_27
                        refine lv_aload_n hx hb dX4_like_187 rfl (lv_at hl 1 rfl) ?_
                        refine va_get (D := (dC, dI)) (ci := 4) (v := .ref mc) (C := RX4) (T := TX4) (N := 12) hx hb hw inX4 hown hK hP 0 rfl rfl 8 (by decide) (hw _ mw252) (fun _ h9 => h9) rfl dX4_like_188 ?_
                        refine lv_bipush (v := 101) hx hb dX4_like_191 (by decide) ?_
                        refine lv_iload_n hx hb dX4_like_193 rfl (lv_at hl 3 rfl) ?_
                        refine lv_imul hx hb dX4_like_194 ?_
                        refine lv_topi (fun x29 ex29 => ?_)
                        obtain rfl : x29 = nI (101 * j) := by rw [ex29]; exact pk_mul 101 j
                        refine lv_iload_n hx hb dX4_like_195 rfl (lv_at hl 4 rfl) ?_
                        refine lv_iadd hx hb dX4_like_196 ?_
                        refine lv_topi (fun x30 ex30 => ?_)
                        obtain rfl : x30 = nI (101 * j + x) := by rw [ex30]; exact nI_add (101 * j) x
                        refine lv_iload hx hb dX4_like_197 (lv_at hl 0 rfl) ?_
                        refine va_zast hx hb hK hP hD hS 5 4 rfl rfl (i := (nI (101 * j + x))) (vp_in_nI (by omega) (by omega)) dX4_like_199 (fun H locs hP hD hS => ?_)
                        rw [nI_clamp (by omega)] at hP hD
                        have hP : va_P (dC, dI) cl5 [(mo, .inr (4, [.int (th), .ref mv, .ref mk, .int (nI nv), .int (nI nk), .int (nI p1), .ref ms, .ref ml, .ref mc, .int (nI 0), .ref mf, .ref mn])), (mv, .inl (jv, 100, .inl fv)), (mk, .inl (jk, 100, .inl fk)), (ms, .inl (js, 100, .inl w1)), (ml, .inl (jl, 100, .inl w2)), (mc, .inl (jc, 10201, .inl (upd w4 (101 * j + x) (0)))), (mf, .inl (jf, 100, .inl gf)), (mn, .inl (jn, 100, .inl gn))] H := hP
                        have hD : va_D A [(mo, .inr (4, [.int (th), .ref mv, .ref mk, .int (nI nv), .int (nI nk), .int (nI p1), .ref ms, .ref ml, .ref mc, .int (nI 0), .ref mf, .ref mn])), (mv, .inl (jv, 100, .inl fv)), (mk, .inl (jk, 100, .inl fk)), (ms, .inl (js, 100, .inl w1)), (ml, .inl (jl, 100, .inl w2)), (mc, .inl (jc, 10201, .inl (upd w4 (101 * j + x) (0)))), (mf, .inl (jf, 100, .inl gf)), (mn, .inl (jn, 100, .inl gn))] := hD
                        refine lv_iinc (v := (nI x) - (1)) (lv' := [(3, .int ((nI x) - (1))), (4, .int (0)), (0, .ref mo), (1, .int (cp)), (2, .int (nI j))]) hx hb dX4_like_200 hl (k := 4) rfl (nI_dec x) (by decide) rfl (fun ls hl => ?_)
                        refine lv_goto (tgt := 18) hx hb dX4_like_203 (by decide) ?_
                        exact ih18 x _ (by omega) (dn_R hv (by omega) hd1) (dn_C hv (by omega) hd2 (Or.inr ⟨rfl, fun q => by have := ((mtI_one hjp zst).mp q).1; omega⟩)) (by omega) H locs hP hD hS ls (lv_sub hl [2, 3, 4, 0] rfl)
                      · skip
                        rw [ti_le, nI_toInt (by omega), nI_toInt (by omega)] at c127_27
                        have hxn : x < nv := by omega
                        refine lv_aload_n hx hb dX4_like_130 rfl (lv_at hl 1 rfl) ?_
                        refine va_get (D := (dC, dI)) (ci := 4) (v := .ref mc) (C := RX4) (T := TX4) (N := 12) hx hb hw inX4 hown hK hP 0 rfl rfl 8 (by decide) (hw _ mw252) (fun _ h9 => h9) rfl dX4_like_131 ?_
                        refine lv_bipush (v := 101) hx hb dX4_like_134 (by decide) ?_
                        refine lv_iload_n hx hb dX4_like_136 rfl (lv_at hl 3 rfl) ?_
                        refine lv_imul hx hb dX4_like_137 ?_
                        refine lv_topi (fun x31 ex31 => ?_)
                        obtain rfl : x31 = nI (101 * j) := by rw [ex31]; exact pk_mul 101 j
                        refine lv_bipush (v := 102) hx hb dX4_like_138 (by decide) ?_
                        refine lv_iadd hx hb dX4_like_140 ?_
                        refine lv_topi (fun x32 ex32 => ?_)
                        obtain rfl : x32 = nI (101 * j + 102) := by rw [ex32]; exact nI_add (101 * j) 102
                        refine lv_iload_n hx hb dX4_like_141 rfl (lv_at hl 4 rfl) ?_
                        refine lv_iadd hx hb dX4_like_142 ?_
                        refine lv_topi (fun x33 ex33 => ?_)
                        obtain rfl : x33 = nI (101 * j + 102 + x) := by rw [ex33]; exact nI_add (101 * j + 102) x
                        refine va_zald hx hb hK hP 5 4 rfl rfl (i := (nI (101 * j + 102 + x))) (vp_in_nI (by omega) (by omega)) dX4_like_143 ?_
                        refine lv_topi (fun x34 ex34 => ?_)
                        obtain rfl : x34 = w4 (101 * j + 102 + x) := by rw [ex34, nI_clamp (by omega)]
                        refine lv_if_eq (tgt := 184) hx hb dX4_like_144 (by decide) (fun c144_34 => ?_) (fun c144_34 => ?_)
                        · skip
                          have y1 := cel_f (i := 101 * j + 102 + x) (by omega) (hd1 (j + 1) (x + 1) (Nat.le_refl _) (by omega) (by omega)) c144_34
                          refine lv_iconst (v := 0) hx hb dX4_like_184 (by decide) ?_
                          refine lv_istore (lv' := [(4, .int (0)), (0, .ref mo), (1, .int (cp)), (2, .int (nI j)), (3, .int (nI x))]) hx hb dX4_like_185 hl (by decide) rfl (fun ls hl => ?_)
                          refine lv_aload_n hx hb dX4_like_187 rfl (lv_at hl 1 rfl) ?_
                          refine va_get (D := (dC, dI)) (ci := 4) (v := .ref mc) (C := RX4) (T := TX4) (N := 12) hx hb hw inX4 hown hK hP 0 rfl rfl 8 (by decide) (hw _ mw252) (fun _ h9 => h9) rfl dX4_like_188 ?_
                          refine lv_bipush (v := 101) hx hb dX4_like_191 (by decide) ?_
                          refine lv_iload_n hx hb dX4_like_193 rfl (lv_at hl 3 rfl) ?_
                          refine lv_imul hx hb dX4_like_194 ?_
                          refine lv_topi (fun x36 ex36 => ?_)
                          obtain rfl : x36 = nI (101 * j) := by rw [ex36]; exact pk_mul 101 j
                          refine lv_iload_n hx hb dX4_like_195 rfl (lv_at hl 4 rfl) ?_
                          refine lv_iadd hx hb dX4_like_196 ?_
                          refine lv_topi (fun x37 ex37 => ?_)
                          obtain rfl : x37 = nI (101 * j + x) := by rw [ex37]; exact nI_add (101 * j) x
                          refine lv_iload hx hb dX4_like_197 (lv_at hl 0 rfl) ?_
                          refine va_zast hx hb hK hP hD hS 5 4 rfl rfl (i := (nI (101 * j + x))) (vp_in_nI (by omega) (by omega)) dX4_like_199 (fun H locs hP hD hS => ?_)
                          rw [nI_clamp (by omega)] at hP hD
                          have hP : va_P (dC, dI) cl5 [(mo, .inr (4, [.int (th), .ref mv, .ref mk, .int (nI nv), .int (nI nk), .int (nI p1), .ref ms, .ref ml, .ref mc, .int (nI 0), .ref mf, .ref mn])), (mv, .inl (jv, 100, .inl fv)), (mk, .inl (jk, 100, .inl fk)), (ms, .inl (js, 100, .inl w1)), (ml, .inl (jl, 100, .inl w2)), (mc, .inl (jc, 10201, .inl (upd w4 (101 * j + x) (0)))), (mf, .inl (jf, 100, .inl gf)), (mn, .inl (jn, 100, .inl gn))] H := hP
                          have hD : va_D A [(mo, .inr (4, [.int (th), .ref mv, .ref mk, .int (nI nv), .int (nI nk), .int (nI p1), .ref ms, .ref ml, .ref mc, .int (nI 0), .ref mf, .ref mn])), (mv, .inl (jv, 100, .inl fv)), (mk, .inl (jk, 100, .inl fk)), (ms, .inl (js, 100, .inl w1)), (ml, .inl (jl, 100, .inl w2)), (mc, .inl (jc, 10201, .inl (upd w4 (101 * j + x) (0)))), (mf, .inl (jf, 100, .inl gf)), (mn, .inl (jn, 100, .inl gn))] := hD
                          refine lv_iinc (v := (nI x) - (1)) (lv' := [(3, .int ((nI x) - (1))), (4, .int (0)), (0, .ref mo), (1, .int (cp)), (2, .int (nI j))]) hx hb dX4_like_200 hl (k := 4) rfl (nI_dec x) (by decide) rfl (fun ls hl => ?_)
                          refine lv_goto (tgt := 18) hx hb dX4_like_203 (by decide) ?_
                          exact ih18 x _ (by omega) (dn_R hv (by omega) hd1) (dn_C hv (by omega) hd2 (Or.inr ⟨rfl, fun q => y1 ((mtI_one hjp zst).mp q).2.2⟩)) (by omega) H locs hP hD hS ls (lv_sub hl [2, 3, 4, 0] rfl)
                        · skip
                          have y1 := cel_t (i := 101 * j + 102 + x) (by omega) (hd1 (j + 1) (x + 1) (Nat.le_refl _) (by omega) (by omega)) c144_34
                          refine lv_aload_n hx hb dX4_like_147 rfl (lv_at hl 1 rfl) ?_
                          refine va_get (D := (dC, dI)) (ci := 4) (v := .ref ms) (C := RX4) (T := TX4) (N := 12) hx hb hw inX4 hown hK hP 0 rfl rfl 6 (by decide) (hw _ mw250) (fun _ h9 => h9) rfl dX4_like_148 ?_
                          refine lv_iload_n hx hb dX4_like_151 rfl (lv_at hl 3 rfl) ?_
                          refine va_iald hx hb hK hP 3 2 rfl rfl (i := (nI j)) (vp_in_nI (by omega) (by omega)) dX4_like_152 ?_
                          refine lv_topi (fun x38 ex38 => ?_)
                          obtain rfl : x38 = w1 j := by rw [ex38, nI_clamp (by omega)]
                          refine lv_iconst (v := 1) hx hb dX4_like_153 (by decide) ?_
                          refine lv_icmp_eq (tgt := 180) hx hb dX4_like_154 (by decide) (fun c154_38 => ?_) (fun c154_38 => ?_)
                          · skip
                            have z1 := c154_38
                            refine lv_iconst (v := 1) hx hb dX4_like_180 (by decide) ?_
                            refine lv_goto (tgt := 185) hx hb dX4_like_181 (by decide) ?_
                            refine lv_istore (lv' := [(4, .int (1)), (0, .ref mo), (1, .int (cp)), (2, .int (nI j)), (3, .int (nI x))]) hx hb dX4_like_185 hl (by decide) rfl (fun ls hl => ?_)
                            refine lv_aload_n hx hb dX4_like_187 rfl (lv_at hl 1 rfl) ?_
                            refine va_get (D := (dC, dI)) (ci := 4) (v := .ref mc) (C := RX4) (T := TX4) (N := 12) hx hb hw inX4 hown hK hP 0 rfl rfl 8 (by decide) (hw _ mw252) (fun _ h9 => h9) rfl dX4_like_188 ?_
                            refine lv_bipush (v := 101) hx hb dX4_like_191 (by decide) ?_
                            refine lv_iload_n hx hb dX4_like_193 rfl (lv_at hl 3 rfl) ?_
                            refine lv_imul hx hb dX4_like_194 ?_
                            refine lv_topi (fun x40 ex40 => ?_)
                            obtain rfl : x40 = nI (101 * j) := by rw [ex40]; exact pk_mul 101 j
                            refine lv_iload_n hx hb dX4_like_195 rfl (lv_at hl 4 rfl) ?_
                            refine lv_iadd hx hb dX4_like_196 ?_
                            refine lv_topi (fun x41 ex41 => ?_)
                            obtain rfl : x41 = nI (101 * j + x) := by rw [ex41]; exact nI_add (101 * j) x
                            refine lv_iload hx hb dX4_like_197 (lv_at hl 0 rfl) ?_
                            refine va_zast hx hb hK hP hD hS 5 4 rfl rfl (i := (nI (101 * j + x))) (vp_in_nI (by omega) (by omega)) dX4_like_199 (fun H locs hP hD hS => ?_)
                            rw [nI_clamp (by omega)] at hP hD
                            have hP : va_P (dC, dI) cl5 [(mo, .inr (4, [.int (th), .ref mv, .ref mk, .int (nI nv), .int (nI nk), .int (nI p1), .ref ms, .ref ml, .ref mc, .int (nI 0), .ref mf, .ref mn])), (mv, .inl (jv, 100, .inl fv)), (mk, .inl (jk, 100, .inl fk)), (ms, .inl (js, 100, .inl w1)), (ml, .inl (jl, 100, .inl w2)), (mc, .inl (jc, 10201, .inl (upd w4 (101 * j + x) (1)))), (mf, .inl (jf, 100, .inl gf)), (mn, .inl (jn, 100, .inl gn))] H := hP
                            have hD : va_D A [(mo, .inr (4, [.int (th), .ref mv, .ref mk, .int (nI nv), .int (nI nk), .int (nI p1), .ref ms, .ref ml, .ref mc, .int (nI 0), .ref mf, .ref mn])), (mv, .inl (jv, 100, .inl fv)), (mk, .inl (jk, 100, .inl fk)), (ms, .inl (js, 100, .inl w1)), (ml, .inl (jl, 100, .inl w2)), (mc, .inl (jc, 10201, .inl (upd w4 (101 * j + x) (1)))), (mf, .inl (jf, 100, .inl gf)), (mn, .inl (jn, 100, .inl gn))] := hD
                            refine lv_iinc (v := (nI x) - (1)) (lv' := [(3, .int ((nI x) - (1))), (4, .int (1)), (0, .ref mo), (1, .int (cp)), (2, .int (nI j))]) hx hb dX4_like_200 hl (k := 4) rfl (nI_dec x) (by decide) rfl (fun ls hl => ?_)
                            refine lv_goto (tgt := 18) hx hb dX4_like_203 (by decide) ?_
                            exact ih18 x _ (by omega) (dn_R hv (by omega) hd1) (dn_C hv (by omega) hd2 (Or.inl ⟨rfl, (mtI_one hjp zst).mpr ⟨hxn, decide_eq_true (Or.inl (srel_1 (hsr j hjp) z1)), y1⟩⟩)) (by omega) H locs hP hD hS ls (lv_sub hl [2, 3, 4, 0] rfl)
                          · skip
                            have z1 := c154_38
                            refine lv_aload_n hx hb dX4_like_157 rfl (lv_at hl 1 rfl) ?_
                            refine va_get (D := (dC, dI)) (ci := 4) (v := .ref mv) (C := RX4) (T := TX4) (N := 12) hx hb hw inX4 hown hK hP 0 rfl rfl 1 (by decide) (hw _ mw245) (fun _ h9 => h9) rfl dX4_like_158 ?_
                            refine lv_iload_n hx hb dX4_like_161 rfl (lv_at hl 4 rfl) ?_
                            refine va_iald hx hb hK hP 1 0 rfl rfl (i := (nI x)) (vp_in_nI (by omega) (by omega)) dX4_like_162 ?_
                            refine lv_topi (fun x42 ex42 => ?_)
                            obtain rfl : x42 = fv x := by rw [ex42, nI_clamp (by omega)]
                            refine lv_iload_n hx hb dX4_like_163 rfl (lv_at hl 2 rfl) ?_
                            refine vp_callSi (va_Run.run (va_runS (As := [.int (fv x), .int (cp)]) (rest := []) ⟨hx, hb, hml, hown, hw⟩ (m_fold l (fv x) (cp)) (cwS 2 hw (gS mw308 mw309 mw20 mw310) rfl rfl rfl (by decide +kernel) ⟨Nat.le_of_ble_eq_true rfl, Nat.le_of_ble_eq_true rfl⟩) st.S rfl rfl hl.1 rfl (lv_room (Nat.le_of_ble_eq_true rfl)) dX4_like_164 ⟨Nat.le_of_ble_eq_true rfl, Nat.le_of_ble_eq_true rfl⟩)) (fun r43 hr43 => ?_)
                            subst hr43
                            refine lv_aload_n hx hb dX4_like_167 rfl (lv_at hl 1 rfl) ?_
                            refine va_get (D := (dC, dI)) (ci := 4) (v := .ref ml) (C := RX4) (T := TX4) (N := 12) hx hb hw inX4 hown hK hP 0 rfl rfl 7 (by decide) (hw _ mw251) (fun _ h9 => h9) rfl dX4_like_168 ?_
                            refine lv_iload_n hx hb dX4_like_171 rfl (lv_at hl 3 rfl) ?_
                            refine va_iald hx hb hK hP 4 3 rfl rfl (i := (nI j)) (vp_in_nI (by omega) (by omega)) dX4_like_172 ?_
                            refine lv_topi (fun x44 ex44 => ?_)
                            obtain rfl : x44 = w2 j := by rw [ex44, nI_clamp (by omega)]
                            refine lv_iload_n hx hb dX4_like_173 rfl (lv_at hl 2 rfl) ?_
                            refine vp_callSi (va_Run.run (va_runS (As := [.int (w2 j), .int (cp)]) (rest := [.int (fo (fv x) (cp))]) ⟨hx, hb, hml, hown, hw⟩ (m_fold l (w2 j) (cp)) (cwS 2 hw (gS mw308 mw309 mw20 mw310) rfl rfl rfl (by decide +kernel) ⟨Nat.le_of_ble_eq_true rfl, Nat.le_of_ble_eq_true rfl⟩) st.S rfl rfl hl.1 rfl (lv_room (Nat.le_of_ble_eq_true rfl)) dX4_like_174 ⟨Nat.le_of_ble_eq_true rfl, Nat.le_of_ble_eq_true rfl⟩)) (fun r45 hr45 => ?_)
                            subst hr45
                            refine lv_icmp_ne (tgt := 184) hx hb dX4_like_177 (by decide) (fun c177_45 => ?_) (fun c177_45 => ?_)
                            · skip
                              have z4 := c177_45
                              refine lv_iconst (v := 0) hx hb dX4_like_184 (by decide) ?_
                              refine lv_istore (lv' := [(4, .int (0)), (0, .ref mo), (1, .int (cp)), (2, .int (nI j)), (3, .int (nI x))]) hx hb dX4_like_185 hl (by decide) rfl (fun ls hl => ?_)
                              refine lv_aload_n hx hb dX4_like_187 rfl (lv_at hl 1 rfl) ?_
                              refine va_get (D := (dC, dI)) (ci := 4) (v := .ref mc) (C := RX4) (T := TX4) (N := 12) hx hb hw inX4 hown hK hP 0 rfl rfl 8 (by decide) (hw _ mw252) (fun _ h9 => h9) rfl dX4_like_188 ?_
                              refine lv_bipush (v := 101) hx hb dX4_like_191 (by decide) ?_
                              refine lv_iload_n hx hb dX4_like_193 rfl (lv_at hl 3 rfl) ?_
                              refine lv_imul hx hb dX4_like_194 ?_
                              refine lv_topi (fun x47 ex47 => ?_)
                              obtain rfl : x47 = nI (101 * j) := by rw [ex47]; exact pk_mul 101 j
                              refine lv_iload_n hx hb dX4_like_195 rfl (lv_at hl 4 rfl) ?_
                              refine lv_iadd hx hb dX4_like_196 ?_
                              refine lv_topi (fun x48 ex48 => ?_)
                              obtain rfl : x48 = nI (101 * j + x) := by rw [ex48]; exact nI_add (101 * j) x
                              refine lv_iload hx hb dX4_like_197 (lv_at hl 0 rfl) ?_
                              refine va_zast hx hb hK hP hD hS 5 4 rfl rfl (i := (nI (101 * j + x))) (vp_in_nI (by omega) (by omega)) dX4_like_199 (fun H locs hP hD hS => ?_)
                              rw [nI_clamp (by omega)] at hP hD
                              have hP : va_P (dC, dI) cl5 [(mo, .inr (4, [.int (th), .ref mv, .ref mk, .int (nI nv), .int (nI nk), .int (nI p1), .ref ms, .ref ml, .ref mc, .int (nI 0), .ref mf, .ref mn])), (mv, .inl (jv, 100, .inl fv)), (mk, .inl (jk, 100, .inl fk)), (ms, .inl (js, 100, .inl w1)), (ml, .inl (jl, 100, .inl w2)), (mc, .inl (jc, 10201, .inl (upd w4 (101 * j + x) (0)))), (mf, .inl (jf, 100, .inl gf)), (mn, .inl (jn, 100, .inl gn))] H := hP
                              have hD : va_D A [(mo, .inr (4, [.int (th), .ref mv, .ref mk, .int (nI nv), .int (nI nk), .int (nI p1), .ref ms, .ref ml, .ref mc, .int (nI 0), .ref mf, .ref mn])), (mv, .inl (jv, 100, .inl fv)), (mk, .inl (jk, 100, .inl fk)), (ms, .inl (js, 100, .inl w1)), (ml, .inl (jl, 100, .inl w2)), (mc, .inl (jc, 10201, .inl (upd w4 (101 * j + x) (0)))), (mf, .inl (jf, 100, .inl gf)), (mn, .inl (jn, 100, .inl gn))] := hD
                              refine lv_iinc (v := (nI x) - (1)) (lv' := [(3, .int ((nI x) - (1))), (4, .int (0)), (0, .ref mo), (1, .int (cp)), (2, .int (nI j))]) hx hb dX4_like_200 hl (k := 4) rfl (nI_dec x) (by decide) rfl (fun ls hl => ?_)
                              refine lv_goto (tgt := 18) hx hb dX4_like_203 (by decide) ?_
                              exact ih18 x _ (by omega) (dn_R hv (by omega) hd1) (dn_C hv (by omega) hd2 (Or.inr ⟨rfl, fun q => mok_0 (hsr j hjp) zs2 z1 z4 ((mtI_one hjp zst).mp q).2.1⟩)) (by omega) H locs hP hD hS ls (lv_sub hl [2, 3, 4, 0] rfl)
                            · skip
                              have z4 := (by first | exact c177_45 | exact Decidable.not_not.mp c177_45)
                              refine lv_iconst (v := 1) hx hb dX4_like_180 (by decide) ?_
                              refine lv_goto (tgt := 185) hx hb dX4_like_181 (by decide) ?_
                              refine lv_istore (lv' := [(4, .int (1)), (0, .ref mo), (1, .int (cp)), (2, .int (nI j)), (3, .int (nI x))]) hx hb dX4_like_185 hl (by decide) rfl (fun ls hl => ?_)
                              refine lv_aload_n hx hb dX4_like_187 rfl (lv_at hl 1 rfl) ?_
                              refine va_get (D := (dC, dI)) (ci := 4) (v := .ref mc) (C := RX4) (T := TX4) (N := 12) hx hb hw inX4 hown hK hP 0 rfl rfl 8 (by decide) (hw _ mw252) (fun _ h9 => h9) rfl dX4_like_188 ?_
                              refine lv_bipush (v := 101) hx hb dX4_like_191 (by decide) ?_
                              refine lv_iload_n hx hb dX4_like_193 rfl (lv_at hl 3 rfl) ?_
                              refine lv_imul hx hb dX4_like_194 ?_
                              refine lv_topi (fun x49 ex49 => ?_)
                              obtain rfl : x49 = nI (101 * j) := by rw [ex49]; exact pk_mul 101 j
                              refine lv_iload_n hx hb dX4_like_195 rfl (lv_at hl 4 rfl) ?_
                              refine lv_iadd hx hb dX4_like_196 ?_
                              refine lv_topi (fun x50 ex50 => ?_)
                              obtain rfl : x50 = nI (101 * j + x) := by rw [ex50]; exact nI_add (101 * j) x
                              refine lv_iload hx hb dX4_like_197 (lv_at hl 0 rfl) ?_
                              refine va_zast hx hb hK hP hD hS 5 4 rfl rfl (i := (nI (101 * j + x))) (vp_in_nI (by omega) (by omega)) dX4_like_199 (fun H locs hP hD hS => ?_)
                              rw [nI_clamp (by omega)] at hP hD
                              have hP : va_P (dC, dI) cl5 [(mo, .inr (4, [.int (th), .ref mv, .ref mk, .int (nI nv), .int (nI nk), .int (nI p1), .ref ms, .ref ml, .ref mc, .int (nI 0), .ref mf, .ref mn])), (mv, .inl (jv, 100, .inl fv)), (mk, .inl (jk, 100, .inl fk)), (ms, .inl (js, 100, .inl w1)), (ml, .inl (jl, 100, .inl w2)), (mc, .inl (jc, 10201, .inl (upd w4 (101 * j + x) (1)))), (mf, .inl (jf, 100, .inl gf)), (mn, .inl (jn, 100, .inl gn))] H := hP
                              have hD : va_D A [(mo, .inr (4, [.int (th), .ref mv, .ref mk, .int (nI nv), .int (nI nk), .int (nI p1), .ref ms, .ref ml, .ref mc, .int (nI 0), .ref mf, .ref mn])), (mv, .inl (jv, 100, .inl fv)), (mk, .inl (jk, 100, .inl fk)), (ms, .inl (js, 100, .inl w1)), (ml, .inl (jl, 100, .inl w2)), (mc, .inl (jc, 10201, .inl (upd w4 (101 * j + x) (1)))), (mf, .inl (jf, 100, .inl gf)), (mn, .inl (jn, 100, .inl gn))] := hD
                              refine lv_iinc (v := (nI x) - (1)) (lv' := [(3, .int ((nI x) - (1))), (4, .int (1)), (0, .ref mo), (1, .int (cp)), (2, .int (nI j))]) hx hb dX4_like_200 hl (k := 4) rfl (nI_dec x) (by decide) rfl (fun ls hl => ?_)
                              refine lv_goto (tgt := 18) hx hb dX4_like_203 (by decide) ?_
                              exact ih18 x _ (by omega) (dn_R hv (by omega) hd1) (dn_C hv (by omega) hd2 (Or.inl ⟨rfl, (mtI_one hjp zst).mpr ⟨hxn, mok_1 (hsr j hjp) zs2 z1 z4, y1⟩⟩)) (by omega) H locs hP hD hS ls (lv_sub hl [2, 3, 4, 0] rfl)
                  · skip
                    have zst := srel_2 (hsr j hjp) (by first | exact c60_25 | exact Decidable.not_not.mp c60_25)
                    refine lv_aload_n hx hb dX4_like_63 rfl (lv_at hl 1 rfl) ?_
                    refine va_get (D := (dC, dI)) (ci := 4) (v := .ref mc) (C := RX4) (T := TX4) (N := 12) hx hb hw inX4 hown hK hP 0 rfl rfl 8 (by decide) (hw _ mw252) (fun _ h9 => h9) rfl dX4_like_64 ?_
                    refine lv_bipush (v := 101) hx hb dX4_like_67 (by decide) ?_
                    refine lv_iload_n hx hb dX4_like_69 rfl (lv_at hl 3 rfl) ?_
                    refine lv_imul hx hb dX4_like_70 ?_
                    refine lv_topi (fun x51 ex51 => ?_)
                    obtain rfl : x51 = nI (101 * j) := by rw [ex51]; exact pk_mul 101 j
                    refine lv_bipush (v := 101) hx hb dX4_like_71 (by decide) ?_
                    refine lv_iadd hx hb dX4_like_73 ?_
                    refine lv_topi (fun x52 ex52 => ?_)
                    obtain rfl : x52 = nI (101 * j + 101) := by rw [ex52]; exact nI_add (101 * j) 101
                    refine lv_iload_n hx hb dX4_like_74 rfl (lv_at hl 4 rfl) ?_
                    refine lv_iadd hx hb dX4_like_75 ?_
                    refine lv_topi (fun x53 ex53 => ?_)
                    obtain rfl : x53 = nI (101 * j + 101 + x) := by rw [ex53]; exact nI_add (101 * j + 101) x
                    refine va_zald hx hb hK hP 5 4 rfl rfl (i := (nI (101 * j + 101 + x))) (vp_in_nI (by omega) (by omega)) dX4_like_76 ?_
                    refine lv_topi (fun x54 ex54 => ?_)
                    obtain rfl : x54 = w4 (101 * j + 101 + x) := by rw [ex54, nI_clamp (by omega)]
                    refine lv_if_ne (tgt := 104) hx hb dX4_like_77 (by decide) (fun c77_54 => ?_) (fun c77_54 => ?_)
                    · skip
                      have y1 := cel_t (i := 101 * j + 101 + x) (by omega) (hd1 (j + 1) x (Nat.le_refl _) (by omega) (by omega)) c77_54
                      refine lv_iconst (v := 1) hx hb dX4_like_104 (by decide) ?_
                      refine lv_goto (tgt := 109) hx hb dX4_like_105 (by decide) ?_
                      refine lv_istore (lv' := [(4, .int (1)), (0, .ref mo), (1, .int (cp)), (2, .int (nI j)), (3, .int (nI x))]) hx hb dX4_like_109 hl (by decide) rfl (fun ls hl => ?_)
                      refine lv_goto (tgt := 187) hx hb dX4_like_111 (by decide) ?_
                      refine lv_aload_n hx hb dX4_like_187 rfl (lv_at hl 1 rfl) ?_
                      refine va_get (D := (dC, dI)) (ci := 4) (v := .ref mc) (C := RX4) (T := TX4) (N := 12) hx hb hw inX4 hown hK hP 0 rfl rfl 8 (by decide) (hw _ mw252) (fun _ h9 => h9) rfl dX4_like_188 ?_
                      refine lv_bipush (v := 101) hx hb dX4_like_191 (by decide) ?_
                      refine lv_iload_n hx hb dX4_like_193 rfl (lv_at hl 3 rfl) ?_
                      refine lv_imul hx hb dX4_like_194 ?_
                      refine lv_topi (fun x56 ex56 => ?_)
                      obtain rfl : x56 = nI (101 * j) := by rw [ex56]; exact pk_mul 101 j
                      refine lv_iload_n hx hb dX4_like_195 rfl (lv_at hl 4 rfl) ?_
                      refine lv_iadd hx hb dX4_like_196 ?_
                      refine lv_topi (fun x57 ex57 => ?_)
                      obtain rfl : x57 = nI (101 * j + x) := by rw [ex57]; exact nI_add (101 * j) x
                      refine lv_iload hx hb dX4_like_197 (lv_at hl 0 rfl) ?_
                      refine va_zast hx hb hK hP hD hS 5 4 rfl rfl (i := (nI (101 * j + x))) (vp_in_nI (by omega) (by omega)) dX4_like_199 (fun H locs hP hD hS => ?_)
                      rw [nI_clamp (by omega)] at hP hD
                      have hP : va_P (dC, dI) cl5 [(mo, .inr (4, [.int (th), .ref mv, .ref mk, .int (nI nv), .int (nI nk), .int (nI p1), .ref ms, .ref ml, .ref mc, .int (nI 0), .ref mf, .ref mn])), (mv, .inl (jv, 100, .inl fv)), (mk, .inl (jk, 100, .inl fk)), (ms, .inl (js, 100, .inl w1)), (ml, .inl (jl, 100, .inl w2)), (mc, .inl (jc, 10201, .inl (upd w4 (101 * j + x) (1)))), (mf, .inl (jf, 100, .inl gf)), (mn, .inl (jn, 100, .inl gn))] H := hP
                      have hD : va_D A [(mo, .inr (4, [.int (th), .ref mv, .ref mk, .int (nI nv), .int (nI nk), .int (nI p1), .ref ms, .ref ml, .ref mc, .int (nI 0), .ref mf, .ref mn])), (mv, .inl (jv, 100, .inl fv)), (mk, .inl (jk, 100, .inl fk)), (ms, .inl (js, 100, .inl w1)), (ml, .inl (jl, 100, .inl w2)), (mc, .inl (jc, 10201, .inl (upd w4 (101 * j + x) (1)))), (mf, .inl (jf, 100, .inl gf)), (mn, .inl (jn, 100, .inl gn))] := hD
                      refine lv_iinc (v := (nI x) - (1)) (lv' := [(3, .int ((nI x) - (1))), (4, .int (1)), (0, .ref mo), (1, .int (cp)), (2, .int (nI j))]) hx hb dX4_like_200 hl (k := 4) rfl (nI_dec x) (by decide) rfl (fun ls hl => ?_)
                      refine lv_goto (tgt := 18) hx hb dX4_like_203 (by decide) ?_
                      exact ih18 x _ (by omega) (dn_R hv (by omega) hd1) (dn_C hv (by omega) hd2 (Or.inl ⟨rfl, (star_rec hjp zst (by omega)).mpr (Or.inl y1)⟩)) (by omega) H locs hP hD hS ls (lv_sub hl [2, 3, 4, 0] rfl)
                    · skip
                      have y1 := cel_f (i := 101 * j + 101 + x) (by omega) (hd1 (j + 1) x (Nat.le_refl _) (by omega) (by omega)) (by first | exact c77_54 | exact Decidable.not_not.mp c77_54)
                      refine lv_iload_n hx hb dX4_like_80 rfl (lv_at hl 4 rfl) ?_
                      refine lv_aload_n hx hb dX4_like_81 rfl (lv_at hl 1 rfl) ?_
                      refine va_get (D := (dC, dI)) (ci := 4) (v := .int (nI nv)) (C := RX4) (T := TX4) (N := 12) hx hb hw inX4 hown hK hP 0 rfl rfl 3 (by decide) (hw _ mw247) (fun _ h9 => h9) rfl dX4_like_82 ?_
                      refine lv_icmp_ge (tgt := 108) hx hb dX4_like_85 (by decide) (fun c85_57 => ?_) (fun c85_57 => ?_)
                      · skip
                        rw [ti_le, nI_toInt (by omega), nI_toInt (by omega)] at c85_57
                        refine lv_iconst (v := 0) hx hb dX4_like_108 (by decide) ?_
                        refine lv_istore (lv' := [(4, .int (0)), (0, .ref mo), (1, .int (cp)), (2, .int (nI j)), (3, .int (nI x))]) hx hb dX4_like_109 hl (by decide) rfl (fun ls hl => ?_)
                        refine lv_goto (tgt := 187) hx hb dX4_like_111 (by decide) ?_
                        refine lv_aload_n hx hb dX4_like_187 rfl (lv_at hl 1 rfl) ?_
                        refine va_get (D := (dC, dI)) (ci := 4) (v := .ref mc) (C := RX4) (T := TX4) (N := 12) hx hb hw inX4 hown hK hP 0 rfl rfl 8 (by decide) (hw _ mw252) (fun _ h9 => h9) rfl dX4_like_188 ?_
                        refine lv_bipush (v := 101) hx hb dX4_like_191 (by decide) ?_
                        refine lv_iload_n hx hb dX4_like_193 rfl (lv_at hl 3 rfl) ?_
                        refine lv_imul hx hb dX4_like_194 ?_
                        refine lv_topi (fun x59 ex59 => ?_)
                        obtain rfl : x59 = nI (101 * j) := by rw [ex59]; exact pk_mul 101 j
                        refine lv_iload_n hx hb dX4_like_195 rfl (lv_at hl 4 rfl) ?_
                        refine lv_iadd hx hb dX4_like_196 ?_
                        refine lv_topi (fun x60 ex60 => ?_)
                        obtain rfl : x60 = nI (101 * j + x) := by rw [ex60]; exact nI_add (101 * j) x
                        refine lv_iload hx hb dX4_like_197 (lv_at hl 0 rfl) ?_
                        refine va_zast hx hb hK hP hD hS 5 4 rfl rfl (i := (nI (101 * j + x))) (vp_in_nI (by omega) (by omega)) dX4_like_199 (fun H locs hP hD hS => ?_)
                        rw [nI_clamp (by omega)] at hP hD
                        have hP : va_P (dC, dI) cl5 [(mo, .inr (4, [.int (th), .ref mv, .ref mk, .int (nI nv), .int (nI nk), .int (nI p1), .ref ms, .ref ml, .ref mc, .int (nI 0), .ref mf, .ref mn])), (mv, .inl (jv, 100, .inl fv)), (mk, .inl (jk, 100, .inl fk)), (ms, .inl (js, 100, .inl w1)), (ml, .inl (jl, 100, .inl w2)), (mc, .inl (jc, 10201, .inl (upd w4 (101 * j + x) (0)))), (mf, .inl (jf, 100, .inl gf)), (mn, .inl (jn, 100, .inl gn))] H := hP
                        have hD : va_D A [(mo, .inr (4, [.int (th), .ref mv, .ref mk, .int (nI nv), .int (nI nk), .int (nI p1), .ref ms, .ref ml, .ref mc, .int (nI 0), .ref mf, .ref mn])), (mv, .inl (jv, 100, .inl fv)), (mk, .inl (jk, 100, .inl fk)), (ms, .inl (js, 100, .inl w1)), (ml, .inl (jl, 100, .inl w2)), (mc, .inl (jc, 10201, .inl (upd w4 (101 * j + x) (0)))), (mf, .inl (jf, 100, .inl gf)), (mn, .inl (jn, 100, .inl gn))] := hD
                        refine lv_iinc (v := (nI x) - (1)) (lv' := [(3, .int ((nI x) - (1))), (4, .int (0)), (0, .ref mo), (1, .int (cp)), (2, .int (nI j))]) hx hb dX4_like_200 hl (k := 4) rfl (nI_dec x) (by decide) rfl (fun ls hl => ?_)
                        refine lv_goto (tgt := 18) hx hb dX4_like_203 (by decide) ?_
                        exact ih18 x _ (by omega) (dn_R hv (by omega) hd1) (dn_C hv (by omega) hd2 (Or.inr ⟨rfl, fun q => ((star_rec hjp zst (by omega)).mp q).elim y1 (fun q2 => by have := q2.1; omega)⟩)) (by omega) H locs hP hD hS ls (lv_sub hl [2, 3, 4, 0] rfl)
                      · skip
                        rw [ti_le, nI_toInt (by omega), nI_toInt (by omega)] at c85_57
                        have hxn : x < nv := by omega
                        refine lv_aload_n hx hb dX4_like_88 rfl (lv_at hl 1 rfl) ?_
                        refine va_get (D := (dC, dI)) (ci := 4) (v := .ref mc) (C := RX4) (T := TX4) (N := 12) hx hb hw inX4 hown hK hP 0 rfl rfl 8 (by decide) (hw _ mw252) (fun _ h9 => h9) rfl dX4_like_89 ?_
                        refine lv_bipush (v := 101) hx hb dX4_like_92 (by decide) ?_
                        refine lv_iload_n hx hb dX4_like_94 rfl (lv_at hl 3 rfl) ?_
                        refine lv_imul hx hb dX4_like_95 ?_
                        refine lv_topi (fun x61 ex61 => ?_)
                        obtain rfl : x61 = nI (101 * j) := by rw [ex61]; exact pk_mul 101 j
                        refine lv_iload_n hx hb dX4_like_96 rfl (lv_at hl 4 rfl) ?_
                        refine lv_iadd hx hb dX4_like_97 ?_
                        refine lv_topi (fun x62 ex62 => ?_)
                        obtain rfl : x62 = nI (101 * j + x) := by rw [ex62]; exact nI_add (101 * j) x
                        refine lv_iconst (v := 1) hx hb dX4_like_98 (by decide) ?_
                        refine lv_iadd hx hb dX4_like_99 ?_
                        refine lv_topi (fun x63 ex63 => ?_)
                        obtain rfl : x63 = nI (101 * j + x + 1) := by rw [ex63]; exact nI_add (101 * j + x) 1
                        refine va_zald hx hb hK hP 5 4 rfl rfl (i := (nI (101 * j + x + 1))) (vp_in_nI (by omega) (by omega)) dX4_like_100 ?_
                        refine lv_topi (fun x64 ex64 => ?_)
                        obtain rfl : x64 = w4 (101 * j + x + 1) := by rw [ex64, nI_clamp (by omega)]
                        refine lv_if_eq (tgt := 108) hx hb dX4_like_101 (by decide) (fun c101_64 => ?_) (fun c101_64 => ?_)
                        · skip
                          have y2 := cel_f (i := 101 * j + x + 1) (by omega) (hd2 (x + 1) (Nat.le_refl _) (by omega)) c101_64
                          refine lv_iconst (v := 0) hx hb dX4_like_108 (by decide) ?_
                          refine lv_istore (lv' := [(4, .int (0)), (0, .ref mo), (1, .int (cp)), (2, .int (nI j)), (3, .int (nI x))]) hx hb dX4_like_109 hl (by decide) rfl (fun ls hl => ?_)
                          refine lv_goto (tgt := 187) hx hb dX4_like_111 (by decide) ?_
                          refine lv_aload_n hx hb dX4_like_187 rfl (lv_at hl 1 rfl) ?_
                          refine va_get (D := (dC, dI)) (ci := 4) (v := .ref mc) (C := RX4) (T := TX4) (N := 12) hx hb hw inX4 hown hK hP 0 rfl rfl 8 (by decide) (hw _ mw252) (fun _ h9 => h9) rfl dX4_like_188 ?_
                          refine lv_bipush (v := 101) hx hb dX4_like_191 (by decide) ?_
                          refine lv_iload_n hx hb dX4_like_193 rfl (lv_at hl 3 rfl) ?_
                          refine lv_imul hx hb dX4_like_194 ?_
                          refine lv_topi (fun x66 ex66 => ?_)
                          obtain rfl : x66 = nI (101 * j) := by rw [ex66]; exact pk_mul 101 j
                          refine lv_iload_n hx hb dX4_like_195 rfl (lv_at hl 4 rfl) ?_
                          refine lv_iadd hx hb dX4_like_196 ?_
                          refine lv_topi (fun x67 ex67 => ?_)
                          obtain rfl : x67 = nI (101 * j + x) := by rw [ex67]; exact nI_add (101 * j) x
                          refine lv_iload hx hb dX4_like_197 (lv_at hl 0 rfl) ?_
                          refine va_zast hx hb hK hP hD hS 5 4 rfl rfl (i := (nI (101 * j + x))) (vp_in_nI (by omega) (by omega)) dX4_like_199 (fun H locs hP hD hS => ?_)
                          rw [nI_clamp (by omega)] at hP hD
                          have hP : va_P (dC, dI) cl5 [(mo, .inr (4, [.int (th), .ref mv, .ref mk, .int (nI nv), .int (nI nk), .int (nI p1), .ref ms, .ref ml, .ref mc, .int (nI 0), .ref mf, .ref mn])), (mv, .inl (jv, 100, .inl fv)), (mk, .inl (jk, 100, .inl fk)), (ms, .inl (js, 100, .inl w1)), (ml, .inl (jl, 100, .inl w2)), (mc, .inl (jc, 10201, .inl (upd w4 (101 * j + x) (0)))), (mf, .inl (jf, 100, .inl gf)), (mn, .inl (jn, 100, .inl gn))] H := hP
                          have hD : va_D A [(mo, .inr (4, [.int (th), .ref mv, .ref mk, .int (nI nv), .int (nI nk), .int (nI p1), .ref ms, .ref ml, .ref mc, .int (nI 0), .ref mf, .ref mn])), (mv, .inl (jv, 100, .inl fv)), (mk, .inl (jk, 100, .inl fk)), (ms, .inl (js, 100, .inl w1)), (ml, .inl (jl, 100, .inl w2)), (mc, .inl (jc, 10201, .inl (upd w4 (101 * j + x) (0)))), (mf, .inl (jf, 100, .inl gf)), (mn, .inl (jn, 100, .inl gn))] := hD
                          refine lv_iinc (v := (nI x) - (1)) (lv' := [(3, .int ((nI x) - (1))), (4, .int (0)), (0, .ref mo), (1, .int (cp)), (2, .int (nI j))]) hx hb dX4_like_200 hl (k := 4) rfl (nI_dec x) (by decide) rfl (fun ls hl => ?_)
                          refine lv_goto (tgt := 18) hx hb dX4_like_203 (by decide) ?_
                          exact ih18 x _ (by omega) (dn_R hv (by omega) hd1) (dn_C hv (by omega) hd2 (Or.inr ⟨rfl, fun q => ((star_rec hjp zst (by omega)).mp q).elim y1 (fun q2 => y2 q2.2)⟩)) (by omega) H locs hP hD hS ls (lv_sub hl [2, 3, 4, 0] rfl)
                        · skip
                          have y2 := cel_t (i := 101 * j + x + 1) (by omega) (hd2 (x + 1) (Nat.le_refl _) (by omega)) c101_64
                          refine lv_iconst (v := 1) hx hb dX4_like_104 (by decide) ?_
                          refine lv_goto (tgt := 109) hx hb dX4_like_105 (by decide) ?_
                          refine lv_istore (lv' := [(4, .int (1)), (0, .ref mo), (1, .int (cp)), (2, .int (nI j)), (3, .int (nI x))]) hx hb dX4_like_109 hl (by decide) rfl (fun ls hl => ?_)
                          refine lv_goto (tgt := 187) hx hb dX4_like_111 (by decide) ?_
                          refine lv_aload_n hx hb dX4_like_187 rfl (lv_at hl 1 rfl) ?_
                          refine va_get (D := (dC, dI)) (ci := 4) (v := .ref mc) (C := RX4) (T := TX4) (N := 12) hx hb hw inX4 hown hK hP 0 rfl rfl 8 (by decide) (hw _ mw252) (fun _ h9 => h9) rfl dX4_like_188 ?_
                          refine lv_bipush (v := 101) hx hb dX4_like_191 (by decide) ?_
                          refine lv_iload_n hx hb dX4_like_193 rfl (lv_at hl 3 rfl) ?_
                          refine lv_imul hx hb dX4_like_194 ?_
                          refine lv_topi (fun x68 ex68 => ?_)
                          obtain rfl : x68 = nI (101 * j) := by rw [ex68]; exact pk_mul 101 j
                          refine lv_iload_n hx hb dX4_like_195 rfl (lv_at hl 4 rfl) ?_
                          refine lv_iadd hx hb dX4_like_196 ?_
                          refine lv_topi (fun x69 ex69 => ?_)
                          obtain rfl : x69 = nI (101 * j + x) := by rw [ex69]; exact nI_add (101 * j) x
                          refine lv_iload hx hb dX4_like_197 (lv_at hl 0 rfl) ?_
                          refine va_zast hx hb hK hP hD hS 5 4 rfl rfl (i := (nI (101 * j + x))) (vp_in_nI (by omega) (by omega)) dX4_like_199 (fun H locs hP hD hS => ?_)
                          rw [nI_clamp (by omega)] at hP hD
                          have hP : va_P (dC, dI) cl5 [(mo, .inr (4, [.int (th), .ref mv, .ref mk, .int (nI nv), .int (nI nk), .int (nI p1), .ref ms, .ref ml, .ref mc, .int (nI 0), .ref mf, .ref mn])), (mv, .inl (jv, 100, .inl fv)), (mk, .inl (jk, 100, .inl fk)), (ms, .inl (js, 100, .inl w1)), (ml, .inl (jl, 100, .inl w2)), (mc, .inl (jc, 10201, .inl (upd w4 (101 * j + x) (1)))), (mf, .inl (jf, 100, .inl gf)), (mn, .inl (jn, 100, .inl gn))] H := hP
                          have hD : va_D A [(mo, .inr (4, [.int (th), .ref mv, .ref mk, .int (nI nv), .int (nI nk), .int (nI p1), .ref ms, .ref ml, .ref mc, .int (nI 0), .ref mf, .ref mn])), (mv, .inl (jv, 100, .inl fv)), (mk, .inl (jk, 100, .inl fk)), (ms, .inl (js, 100, .inl w1)), (ml, .inl (jl, 100, .inl w2)), (mc, .inl (jc, 10201, .inl (upd w4 (101 * j + x) (1)))), (mf, .inl (jf, 100, .inl gf)), (mn, .inl (jn, 100, .inl gn))] := hD
                          refine lv_iinc (v := (nI x) - (1)) (lv' := [(3, .int ((nI x) - (1))), (4, .int (1)), (0, .ref mo), (1, .int (cp)), (2, .int (nI j))]) hx hb dX4_like_200 hl (k := 4) rfl (nI_dec x) (by decide) rfl (fun ls hl => ?_)
                          refine lv_goto (tgt := 18) hx hb dX4_like_203 (by decide) ?_
                          exact ih18 x _ (by omega) (dn_R hv (by omega) hd1) (dn_C hv (by omega) hd2 (Or.inl ⟨rfl, (star_rec hjp zst (by omega)).mpr (Or.inr ⟨hxn, y2⟩)⟩)) (by omega) H locs hP hD hS ls (lv_sub hl [2, 3, 4, 0] rfl)
              · skip
                have zj : j = p1 := (nI_eq (by omega) (by omega)).mp (by first | exact c27_22 | exact Decidable.not_not.mp c27_22)
                refine lv_iload_n hx hb dX4_like_30 rfl (lv_at hl 3 rfl) ?_
                refine lv_aload_n hx hb dX4_like_31 rfl (lv_at hl 0 rfl) ?_
                refine va_get (D := (dC, dI)) (ci := 4) (v := .int (nI nv)) (C := RX4) (T := TX4) (N := 12) hx hb hw inX4 hown hK hP 0 rfl rfl 3 (by decide) (hw _ mw247) (fun _ h9 => h9) rfl dX4_like_32 ?_
                refine lv_icmp_ne (tgt := 42) hx hb dX4_like_35 (by decide) (fun c35_69 => ?_) (fun c35_69 => ?_)
                · skip
                  have zx : ¬ x = nv := fun q => c35_69 (by rw [q])
                  refine lv_iconst (v := 0) hx hb dX4_like_42 (by decide) ?_
                  refine lv_istore (lv' := [(4, .int (0)), (0, .ref mo), (1, .int (cp)), (2, .int (nI j)), (3, .int (nI x))]) hx hb dX4_like_43 hl (by decide) rfl (fun ls hl => ?_)
                  refine lv_iload_n hx hb dX4_like_45 rfl (lv_at hl 3 rfl) ?_
                  refine lv_aload_n hx hb dX4_like_46 rfl (lv_at hl 1 rfl) ?_
                  refine va_get (D := (dC, dI)) (ci := 4) (v := .int (nI p1)) (C := RX4) (T := TX4) (N := 12) hx hb hw inX4 hown hK hP 0 rfl rfl 5 (by decide) (hw _ mw249) (fun _ h9 => h9) rfl dX4_like_47 ?_
                  refine lv_icmp_ge (tgt := 114) hx hb dX4_like_50 (by decide) (fun c50_70 => ?_) (fun c50_70 => ?_)
                  · skip
                    rw [ti_le, nI_toInt (by omega), nI_toInt (by omega)] at c50_70
                    refine lv_iload_n hx hb dX4_like_114 rfl (lv_at hl 3 rfl) ?_
                    refine lv_aload_n hx hb dX4_like_115 rfl (lv_at hl 1 rfl) ?_
                    refine va_get (D := (dC, dI)) (ci := 4) (v := .int (nI p1)) (C := RX4) (T := TX4) (N := 12) hx hb hw inX4 hown hK hP 0 rfl rfl 5 (by decide) (hw _ mw249) (fun _ h9 => h9) rfl dX4_like_116 ?_
                    refine lv_icmp_ge (tgt := 187) hx hb dX4_like_119 (by decide) (fun c119_71 => ?_) (fun c119_71 => ?_)
                    · skip
                      rw [ti_le, nI_toInt (by omega), nI_toInt (by omega)] at c119_71
                      refine lv_aload_n hx hb dX4_like_187 rfl (lv_at hl 1 rfl) ?_
                      refine va_get (D := (dC, dI)) (ci := 4) (v := .ref mc) (C := RX4) (T := TX4) (N := 12) hx hb hw inX4 hown hK hP 0 rfl rfl 8 (by decide) (hw _ mw252) (fun _ h9 => h9) rfl dX4_like_188 ?_
                      refine lv_bipush (v := 101) hx hb dX4_like_191 (by decide) ?_
                      refine lv_iload_n hx hb dX4_like_193 rfl (lv_at hl 3 rfl) ?_
                      refine lv_imul hx hb dX4_like_194 ?_
                      refine lv_topi (fun x73 ex73 => ?_)
                      obtain rfl : x73 = nI (101 * j) := by rw [ex73]; exact pk_mul 101 j
                      refine lv_iload_n hx hb dX4_like_195 rfl (lv_at hl 4 rfl) ?_
                      refine lv_iadd hx hb dX4_like_196 ?_
                      refine lv_topi (fun x74 ex74 => ?_)
                      obtain rfl : x74 = nI (101 * j + x) := by rw [ex74]; exact nI_add (101 * j) x
                      refine lv_iload hx hb dX4_like_197 (lv_at hl 0 rfl) ?_
                      refine va_zast hx hb hK hP hD hS 5 4 rfl rfl (i := (nI (101 * j + x))) (vp_in_nI (by omega) (by omega)) dX4_like_199 (fun H locs hP hD hS => ?_)
                      rw [nI_clamp (by omega)] at hP hD
                      have hP : va_P (dC, dI) cl5 [(mo, .inr (4, [.int (th), .ref mv, .ref mk, .int (nI nv), .int (nI nk), .int (nI p1), .ref ms, .ref ml, .ref mc, .int (nI 0), .ref mf, .ref mn])), (mv, .inl (jv, 100, .inl fv)), (mk, .inl (jk, 100, .inl fk)), (ms, .inl (js, 100, .inl w1)), (ml, .inl (jl, 100, .inl w2)), (mc, .inl (jc, 10201, .inl (upd w4 (101 * j + x) (0)))), (mf, .inl (jf, 100, .inl gf)), (mn, .inl (jn, 100, .inl gn))] H := hP
                      have hD : va_D A [(mo, .inr (4, [.int (th), .ref mv, .ref mk, .int (nI nv), .int (nI nk), .int (nI p1), .ref ms, .ref ml, .ref mc, .int (nI 0), .ref mf, .ref mn])), (mv, .inl (jv, 100, .inl fv)), (mk, .inl (jk, 100, .inl fk)), (ms, .inl (js, 100, .inl w1)), (ml, .inl (jl, 100, .inl w2)), (mc, .inl (jc, 10201, .inl (upd w4 (101 * j + x) (0)))), (mf, .inl (jf, 100, .inl gf)), (mn, .inl (jn, 100, .inl gn))] := hD
                      refine lv_iinc (v := (nI x) - (1)) (lv' := [(3, .int ((nI x) - (1))), (4, .int (0)), (0, .ref mo), (1, .int (cp)), (2, .int (nI j))]) hx hb dX4_like_200 hl (k := 4) rfl (nI_dec x) (by decide) rfl (fun ls hl => ?_)
                      refine lv_goto (tgt := 18) hx hb dX4_like_203 (by decide) ?_
                      exact ih18 x _ (by omega) (dn_R hv (by omega) hd1) (dn_C hv (by omega) hd2 (Or.inr ⟨rfl, end_0 zj zx⟩)) (by omega) H locs hP hD hS ls (lv_sub hl [2, 3, 4, 0] rfl)
                    · skip
                      rw [ti_le, nI_toInt (by omega), nI_toInt (by omega)] at c119_71
                      omega
                  · skip
                    rw [ti_le, nI_toInt (by omega), nI_toInt (by omega)] at c50_70
                    have hjp : j < p1 := by omega
                    omega
                · skip
                  have zx : x = nv := (nI_eq (by omega) (by omega)).mp (by first | exact c35_69 | exact Decidable.not_not.mp c35_69)
                  refine lv_iconst (v := 1) hx hb dX4_like_38 (by decide) ?_
                  refine lv_goto (tgt := 43) hx hb dX4_like_39 (by decide) ?_
                  refine lv_istore (lv' := [(4, .int (1)), (0, .ref mo), (1, .int (cp)), (2, .int (nI j)), (3, .int (nI x))]) hx hb dX4_like_43 hl (by decide) rfl (fun ls hl => ?_)
                  refine lv_iload_n hx hb dX4_like_45 rfl (lv_at hl 3 rfl) ?_
                  refine lv_aload_n hx hb dX4_like_46 rfl (lv_at hl 1 rfl) ?_
                  refine va_get (D := (dC, dI)) (ci := 4) (v := .int (nI p1)) (C := RX4) (T := TX4) (N := 12) hx hb hw inX4 hown hK hP 0 rfl rfl 5 (by decide) (hw _ mw249) (fun _ h9 => h9) rfl dX4_like_47 ?_
                  refine lv_icmp_ge (tgt := 114) hx hb dX4_like_50 (by decide) (fun c50_74 => ?_) (fun c50_74 => ?_)
                  · skip
                    rw [ti_le, nI_toInt (by omega), nI_toInt (by omega)] at c50_74
                    refine lv_iload_n hx hb dX4_like_114 rfl (lv_at hl 3 rfl) ?_
                    refine lv_aload_n hx hb dX4_like_115 rfl (lv_at hl 1 rfl) ?_
                    refine va_get (D := (dC, dI)) (ci := 4) (v := .int (nI p1)) (C := RX4) (T := TX4) (N := 12) hx hb hw inX4 hown hK hP 0 rfl rfl 5 (by decide) (hw _ mw249) (fun _ h9 => h9) rfl dX4_like_116 ?_
                    refine lv_icmp_ge (tgt := 187) hx hb dX4_like_119 (by decide) (fun c119_75 => ?_) (fun c119_75 => ?_)
                    · skip
                      rw [ti_le, nI_toInt (by omega), nI_toInt (by omega)] at c119_75
                      refine lv_aload_n hx hb dX4_like_187 rfl (lv_at hl 1 rfl) ?_
                      refine va_get (D := (dC, dI)) (ci := 4) (v := .ref mc) (C := RX4) (T := TX4) (N := 12) hx hb hw inX4 hown hK hP 0 rfl rfl 8 (by decide) (hw _ mw252) (fun _ h9 => h9) rfl dX4_like_188 ?_
                      refine lv_bipush (v := 101) hx hb dX4_like_191 (by decide) ?_
                      refine lv_iload_n hx hb dX4_like_193 rfl (lv_at hl 3 rfl) ?_
                      refine lv_imul hx hb dX4_like_194 ?_
                      refine lv_topi (fun x77 ex77 => ?_)
                      obtain rfl : x77 = nI (101 * j) := by rw [ex77]; exact pk_mul 101 j
                      refine lv_iload_n hx hb dX4_like_195 rfl (lv_at hl 4 rfl) ?_
                      refine lv_iadd hx hb dX4_like_196 ?_
                      refine lv_topi (fun x78 ex78 => ?_)
                      obtain rfl : x78 = nI (101 * j + x) := by rw [ex78]; exact nI_add (101 * j) x
                      refine lv_iload hx hb dX4_like_197 (lv_at hl 0 rfl) ?_
                      refine va_zast hx hb hK hP hD hS 5 4 rfl rfl (i := (nI (101 * j + x))) (vp_in_nI (by omega) (by omega)) dX4_like_199 (fun H locs hP hD hS => ?_)
                      rw [nI_clamp (by omega)] at hP hD
                      have hP : va_P (dC, dI) cl5 [(mo, .inr (4, [.int (th), .ref mv, .ref mk, .int (nI nv), .int (nI nk), .int (nI p1), .ref ms, .ref ml, .ref mc, .int (nI 0), .ref mf, .ref mn])), (mv, .inl (jv, 100, .inl fv)), (mk, .inl (jk, 100, .inl fk)), (ms, .inl (js, 100, .inl w1)), (ml, .inl (jl, 100, .inl w2)), (mc, .inl (jc, 10201, .inl (upd w4 (101 * j + x) (1)))), (mf, .inl (jf, 100, .inl gf)), (mn, .inl (jn, 100, .inl gn))] H := hP
                      have hD : va_D A [(mo, .inr (4, [.int (th), .ref mv, .ref mk, .int (nI nv), .int (nI nk), .int (nI p1), .ref ms, .ref ml, .ref mc, .int (nI 0), .ref mf, .ref mn])), (mv, .inl (jv, 100, .inl fv)), (mk, .inl (jk, 100, .inl fk)), (ms, .inl (js, 100, .inl w1)), (ml, .inl (jl, 100, .inl w2)), (mc, .inl (jc, 10201, .inl (upd w4 (101 * j + x) (1)))), (mf, .inl (jf, 100, .inl gf)), (mn, .inl (jn, 100, .inl gn))] := hD
                      refine lv_iinc (v := (nI x) - (1)) (lv' := [(3, .int ((nI x) - (1))), (4, .int (1)), (0, .ref mo), (1, .int (cp)), (2, .int (nI j))]) hx hb dX4_like_200 hl (k := 4) rfl (nI_dec x) (by decide) rfl (fun ls hl => ?_)
                      refine lv_goto (tgt := 18) hx hb dX4_like_203 (by decide) ?_
                      exact ih18 x _ (by omega) (dn_R hv (by omega) hd1) (dn_C hv (by omega) hd2 (Or.inl ⟨rfl, end_1 zj zx⟩)) (by omega) H locs hP hD hS ls (lv_sub hl [2, 3, 4, 0] rfl)
                    · skip
                      rw [ti_le, nI_toInt (by omega), nI_toInt (by omega)] at c119_75
                      omega
                  · skip
                    rw [ti_le, nI_toInt (by omega), nI_toInt (by omega)] at c50_74
                    have hjp : j < p1 := by omega
                    omega
        exact loop18 (nv + 1 + 1) (nv + 1) w3 (Nat.le_refl _) hd dn_c0 (by omega) H locs hP hD hS ls (lv_sub hl [1, 2, 3, 0] rfl)
  exact loop9 (p1 + 1 + 1) (p1 + 1) gc (Nat.le_refl _) dn_0 (by omega) H locs hP hD hS ls (lv_sub hl [1, 2, 0] rfl)
