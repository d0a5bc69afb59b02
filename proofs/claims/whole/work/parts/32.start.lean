set_option maxHeartbeats 40000000 in
set_option maxRecDepth 100000 in
theorem whole_start {p : Program} {e : Env} {s : State} {m : MethodId} {below : List Frame} {meth : Method} {c : Code} (l : Launch) {b L : Nat} {xs : Nat → Int32} (hL : L ≤ 2560) (C0 : lw_At p s m meth c b L xs) : W p l e room_1 s m #[Value.ref b] below meth c s.heap [] 0 0 (lw_Z below #[Value.ref b] s) (entryFrame m ([Value.ref b] : List Value).toArray 4) := by
  obtain ⟨hx, hb, hr, hml, hown, hts, hX, hbl, hlocks, hgv⟩ := id C0
  have hown : s.vm.findClass "GlobDeskLaw" = some m.cls := hown
  have hw : ∀ w ∈ wsA, w.before #[Value.ref b] s = true := fun w h => hts w (wsA_tbl w h)
  have hN : nz s := ⟨va_Nw.of rfl (hts _ (List.mem_of_getElem? (i := 32) rfl)), va_Nw.of rfl (hts _ (List.mem_of_getElem? (i := 38) rfl)), va_Nw.of rfl (hts _ (List.mem_of_getElem? (i := 39) rfl)), va_Nw.of rfl (hts _ (List.mem_of_getElem? (i := 48) rfl)), va_Nw.of rfl (hts _ (List.mem_of_getElem? (i := 54) rfl)), va_Nw.of rfl (hts _ (List.mem_of_getElem? (i := 62) rfl)), va_Nw.of rfl (hts _ (List.mem_of_getElem? (i := 69) rfl))⟩
  obtain ⟨c0, iS0, hKn0⟩ := u_known (C := RX0) (T := TX0) (N := 2) (n := 2) hw inX0 (hw _ mw47)
  obtain ⟨c1, iS1, hKn1⟩ := u_known (C := RX1) (T := TX1) (N := 2) (n := 2) hw inX1 (hw _ mw31)
  obtain ⟨c2, iS2, hKn2⟩ := u_known (C := RX2) (T := TX2) (N := 3) (n := 3) hw inX2 (hw _ mw61)
  obtain ⟨c3, iS3, hKn3⟩ := u_known (C := RX3) (T := TX3) (N := 4) (n := 4) hw inX3 (hw _ mw23)
  obtain ⟨c4, iS4, hKn4⟩ := u_known (C := RX4) (T := TX4) (N := 12) (n := 12) hw inX4 (hw _ mw239)
  obtain ⟨dC, dI, hKc⟩ : ∃ (dC : Nat → ClassId) (dI : Nat → Nat → Nat), ∀ (k : Nat) (q : vw_C), cl5[k]? = some q → u_Kn s q.1 q.2.1 q.2.2 (dC k) (dI k) := by
    refine ⟨fun k => if k = 0 then c0 else if k = 1 then c1 else if k = 2 then c2 else if k = 3 then c3 else c4, fun k => if k = 0 then iS0 else if k = 1 then iS1 else if k = 2 then iS2 else if k = 3 then iS3 else iS4, ?_⟩
    intro k q hq
    match k, hq with
    | 0, hq => cases hq; exact hKn0
    | 1, hq => cases hq; exact hKn1
    | 2, hq => cases hq; exact hKn2
    | 3, hq => cases hq; exact hKn3
    | 4, hq => cases hq; exact hKn4
    | k + 5, hq => simp [cl5] at hq
  have hS : va_S (fun q : Nat => s.heap.size ≤ q) s.heap s.heap [] := va_S.rf
  have hK : va_K (dC, dI) cl5 [] s := ⟨hKc, fun k q h => by simp at h⟩
  have hP : va_P (dC, dI) cl5 [] s.heap := fun k q h => by simp at h
  have hD : va_D (fun q : Nat => s.heap.size ≤ q) [] := ⟨fun i j p q h => by simp at h, fun k q h => by simp at h⟩
  generalize hAe : (fun q : Nat => s.heap.size ≤ q) = A at hS hD
  have hA : ∀ q : Nat, s.heap.size ≤ q → A q := fun q h => by rw [← hAe]; exact h
  have hl := lv_entry ([.ref b]) (n := 4) (Nat.le_of_ble_eq_true rfl)
  rw [lg_entry_eq]
  generalize (lg_sl ([.ref b]) ++ List.replicate (4 - (lg_sl ([.ref b])).length) Slot.unset).toArray = ls at hl ⊢
  have hl : lv_has ls 4 [(0, .ref b)] := hl
  refine va_new (ci := 3) (fs := [.null, .null, .null, .null]) (C := RX3) (T := TX3) (N := 4) hx hb hw inX3 tyX3 tyX3_ok hown (hw _ mw22) (hw _ mw23) (hw _ mw16) hK hP hD hS hA rfl (fun j hj => by rcases (show j = 0 ∨ j = 1 ∨ j = 2 ∨ j = 3 by omega) with rfl | rfl | rfl | rfl <;> rfl) (Nat.le_of_ble_eq_true rfl) (Nat.le_of_ble_eq_true rfl) dL_law_0 (fun qo0 H hP hD hS => ?_)
  have hP : va_P (dC, dI) cl5 [(qo0, .inr (3, [.null, .null, .null, .null]))] H := hP
  have hD : va_D A [(qo0, .inr (3, [.null, .null, .null, .null]))] := hD
  refine W.widen (k := 1) (n := 4) (by omega) (by omega) ?_
  refine lv_dup hx hb dL_law_3 rfl ?_
  have hPc := hP.sub (ws' := [(qo0, .inr (3, [.null, .null, .null, .null]))]) [0] rfl
  have hDc := hD.sub (ws' := [(qo0, .inr (3, [.null, .null, .null, .null]))]) [0] (by decide) rfl
  have hKc := hK.sub (tys' := []) [] rfl
  have hFc := va_free (wc := [(qo0, .inr (3, [.null, .null, .null, .null]))]) hD hS hA [0] rfl
  refine va_callv (va_runI (As := []) (rest := [.ref qo0]) ⟨hx, hb, hml, hown, hw⟩ (c_X3_init l dC dI H.size qo0) (cwI 0 hw (gI mw26) rfl rfl rfl (hw _ mw16) (hw _ mw24) (hw _ mw25) rfl (by decide +kernel) ⟨Nat.le_of_ble_eq_true rfl, Nat.le_of_ble_eq_true rfl⟩) (wr.S hN hKc hPc hDc) rfl rfl hl.1 rfl (lv_room (Nat.le_of_ble_eq_true rfl)) dL_law_4 ⟨Nat.le_of_ble_eq_true rfl, Nat.le_of_ble_eq_true rfl⟩) hS (fun q _ h => hFc q h) hFc (fun u t H1 locs ht hvm hu hB hz1 hk1 hS => ?_)
  obtain ⟨rv_4, rk_4, pt_4, sp_4, av_4, ak_4, ap_4, a1_4, a2_4, kv_4, kk_4, kp_4, k1_4, k2_4, hP1, hK1, hD1⟩ := hB
  rw [ht] at hP1
  have hK1 := va_K.moved hvm.symm hK1
  obtain ⟨hP, hD⟩ := va_join (wr := []) (w1 := [(qo0, .inr (3, [.ref rv_4, .ref rk_4, .ref pt_4, .ref sp_4])), (rv_4, .inr (1, [.ref av_4, .int (nI 0)])), (av_4, .inl (kv_4, 100, .inl (fun _ => 0))), (rk_4, .inr (1, [.ref ak_4, .int (nI 0)])), (ak_4, .inl (kk_4, 100, .inl (fun _ => 0))), (pt_4, .inr (0, [.ref ap_4, .int (nI 0)])), (ap_4, .inl (kp_4, 100, .inl (fun _ => 0))), (sp_4, .inr (2, [.ref a1_4, .ref a2_4, .int (nI 0)])), (a1_4, .inl (k1_4, 100, .inl (fun _ => 0))), (a2_4, .inl (k2_4, 100, .inl (fun _ => 0)))]) hP hD [0] [] rfl rfl (by decide) (by decide) hk1 hFc hP1 hD1
  have hK := hK.app hK1
  generalize H1 = H at hP hS ⊢
  have hK : va_K (dC, dI) cl5 [(kv_4, .int), (kk_4, .int), (kp_4, .int), (k1_4, .int), (k2_4, .int)] s := hK
  have hP : va_P (dC, dI) cl5 [(qo0, .inr (3, [.ref rv_4, .ref rk_4, .ref pt_4, .ref sp_4])), (rv_4, .inr (1, [.ref av_4, .int (nI 0)])), (av_4, .inl (kv_4, 100, .inl (fun _ => 0))), (rk_4, .inr (1, [.ref ak_4, .int (nI 0)])), (ak_4, .inl (kk_4, 100, .inl (fun _ => 0))), (pt_4, .inr (0, [.ref ap_4, .int (nI 0)])), (ap_4, .inl (kp_4, 100, .inl (fun _ => 0))), (sp_4, .inr (2, [.ref a1_4, .ref a2_4, .int (nI 0)])), (a1_4, .inl (k1_4, 100, .inl (fun _ => 0))), (a2_4, .inl (k2_4, 100, .inl (fun _ => 0)))] H := hP
  have hD : va_D A [(qo0, .inr (3, [.ref rv_4, .ref rk_4, .ref pt_4, .ref sp_4])), (rv_4, .inr (1, [.ref av_4, .int (nI 0)])), (av_4, .inl (kv_4, 100, .inl (fun _ => 0))), (rk_4, .inr (1, [.ref ak_4, .int (nI 0)])), (ak_4, .inl (kk_4, 100, .inl (fun _ => 0))), (pt_4, .inr (0, [.ref ap_4, .int (nI 0)])), (ap_4, .inl (kp_4, 100, .inl (fun _ => 0))), (sp_4, .inr (2, [.ref a1_4, .ref a2_4, .int (nI 0)])), (a1_4, .inl (k1_4, 100, .inl (fun _ => 0))), (a2_4, .inl (k2_4, 100, .inl (fun _ => 0)))] := hD
  refine W.widen (k := 10) (n := 513) (by omega) (by omega) ?_
  refine lv_astore_n (lv' := [(1, .ref qo0), (0, .ref b)]) hx hb dL_law_7 rfl hl (by decide) rfl (fun ls hl => ?_)
  refine va_new (ci := 4) (fs := [.int (0), .null, .null, .int (0), .int (0), .int (0), .null, .null, .null, .int (0), .null, .null]) (C := RX4) (T := TX4) (N := 12) hx hb hw inX4 tyX4 tyX4_ok hown (hw _ mw238) (hw _ mw239) (hw _ mw20) hK hP hD hS hA rfl (fun j hj => by rcases (show j = 0 ∨ j = 1 ∨ j = 2 ∨ j = 3 ∨ j = 4 ∨ j = 5 ∨ j = 6 ∨ j = 7 ∨ j = 8 ∨ j = 9 ∨ j = 10 ∨ j = 11 by omega) with rfl | rfl | rfl | rfl | rfl | rfl | rfl | rfl | rfl | rfl | rfl | rfl <;> rfl) (Nat.le_of_ble_eq_true rfl) (Nat.le_of_ble_eq_true rfl) dL_law_8 (fun qo8 H hP hD hS => ?_)
  have hP : va_P (dC, dI) cl5 [(qo0, .inr (3, [.ref rv_4, .ref rk_4, .ref pt_4, .ref sp_4])), (rv_4, .inr (1, [.ref av_4, .int (nI 0)])), (av_4, .inl (kv_4, 100, .inl (fun _ => 0))), (rk_4, .inr (1, [.ref ak_4, .int (nI 0)])), (ak_4, .inl (kk_4, 100, .inl (fun _ => 0))), (pt_4, .inr (0, [.ref ap_4, .int (nI 0)])), (ap_4, .inl (kp_4, 100, .inl (fun _ => 0))), (sp_4, .inr (2, [.ref a1_4, .ref a2_4, .int (nI 0)])), (a1_4, .inl (k1_4, 100, .inl (fun _ => 0))), (a2_4, .inl (k2_4, 100, .inl (fun _ => 0))), (qo8, .inr (4, [.int (0), .null, .null, .int (0), .int (0), .int (0), .null, .null, .null, .int (0), .null, .null]))] H := hP
  have hD : va_D A [(qo0, .inr (3, [.ref rv_4, .ref rk_4, .ref pt_4, .ref sp_4])), (rv_4, .inr (1, [.ref av_4, .int (nI 0)])), (av_4, .inl (kv_4, 100, .inl (fun _ => 0))), (rk_4, .inr (1, [.ref ak_4, .int (nI 0)])), (ak_4, .inl (kk_4, 100, .inl (fun _ => 0))), (pt_4, .inr (0, [.ref ap_4, .int (nI 0)])), (ap_4, .inl (kp_4, 100, .inl (fun _ => 0))), (sp_4, .inr (2, [.ref a1_4, .ref a2_4, .int (nI 0)])), (a1_4, .inl (k1_4, 100, .inl (fun _ => 0))), (a2_4, .inl (k2_4, 100, .inl (fun _ => 0))), (qo8, .inr (4, [.int (0), .null, .null, .int (0), .int (0), .int (0), .null, .null, .null, .int (0), .null, .null]))] := hD
  refine W.widen (k := 11) (n := 525) (by omega) (by omega) ?_
  refine lv_dup hx hb dL_law_11 rfl ?_
  have hPc := hP.sub (ws' := [(qo8, .inr (4, [.int (0), .null, .null, .int (0), .int (0), .int (0), .null, .null, .null, .int (0), .null, .null]))]) [10] rfl
  have hDc := hD.sub (ws' := [(qo8, .inr (4, [.int (0), .null, .null, .int (0), .int (0), .int (0), .null, .null, .null, .int (0), .null, .null]))]) [10] (by decide) rfl
  have hKc := hK.sub (tys' := []) [] rfl
  have hFc := va_free (wc := [(qo8, .inr (4, [.int (0), .null, .null, .int (0), .int (0), .int (0), .null, .null, .null, .int (0), .null, .null]))]) hD hS hA [10] rfl
  refine va_callv (va_runI (As := []) (rest := [.ref qo8]) ⟨hx, hb, hml, hown, hw⟩ (c_X4_init l dC dI H.size qo8) (cwI 0 hw (gI mw242) rfl rfl rfl (hw _ mw20) (hw _ mw240) (hw _ mw241) rfl (by decide +kernel) ⟨Nat.le_of_ble_eq_true rfl, Nat.le_of_ble_eq_true rfl⟩) (wr.S hN hKc hPc hDc) rfl rfl hl.1 rfl (lv_room (Nat.le_of_ble_eq_true rfl)) dL_law_12 ⟨Nat.le_of_ble_eq_true rfl, Nat.le_of_ble_eq_true rfl⟩) hS (fun q _ h => hFc q h) hFc (fun u t H1 locs ht hvm hu hB hz1 hk1 hS => ?_)
  obtain ⟨mv_12, mk_12, ms_12, ml_12, mc_12, mf_12, mn_12, jv_12, jk_12, js_12, jl_12, jc_12, jf_12, jn_12, hP1, hK1, hD1⟩ := hB
  rw [ht] at hP1
  have hK1 := va_K.moved hvm.symm hK1
  obtain ⟨hP, hD⟩ := va_join (wr := [(qo0, .inr (3, [.ref rv_4, .ref rk_4, .ref pt_4, .ref sp_4])), (rv_4, .inr (1, [.ref av_4, .int (nI 0)])), (av_4, .inl (kv_4, 100, .inl (fun _ => 0))), (rk_4, .inr (1, [.ref ak_4, .int (nI 0)])), (ak_4, .inl (kk_4, 100, .inl (fun _ => 0))), (pt_4, .inr (0, [.ref ap_4, .int (nI 0)])), (ap_4, .inl (kp_4, 100, .inl (fun _ => 0))), (sp_4, .inr (2, [.ref a1_4, .ref a2_4, .int (nI 0)])), (a1_4, .inl (k1_4, 100, .inl (fun _ => 0))), (a2_4, .inl (k2_4, 100, .inl (fun _ => 0)))]) (w1 := [(qo8, .inr (4, [.int (nI 0), .ref mv_12, .ref mk_12, .int (nI 0), .int (nI 0), .int (nI 0), .ref ms_12, .ref ml_12, .ref mc_12, .int (nI 0), .ref mf_12, .ref mn_12])), (mv_12, .inl (jv_12, 100, .inl (fun _ => 0))), (mk_12, .inl (jk_12, 100, .inl (fun _ => 0))), (ms_12, .inl (js_12, 100, .inl (fun _ => 0))), (ml_12, .inl (jl_12, 100, .inl (fun _ => 0))), (mc_12, .inl (jc_12, 10201, .inl (fun _ => 0))), (mf_12, .inl (jf_12, 100, .inl (fun _ => 0))), (mn_12, .inl (jn_12, 100, .inl (fun _ => 0)))]) hP hD [10] [0, 1, 2, 3, 4, 5, 6, 7, 8, 9] rfl rfl (by decide) (by decide) hk1 hFc hP1 hD1
  have hK := hK.app hK1
  generalize H1 = H at hP hS ⊢
  have hK : va_K (dC, dI) cl5 [(kv_4, .int), (kk_4, .int), (kp_4, .int), (k1_4, .int), (k2_4, .int), (jv_12, .int), (jk_12, .int), (js_12, .int), (jl_12, .int), (jc_12, .boolean), (jf_12, .int), (jn_12, .int)] s := hK
  have hP : va_P (dC, dI) cl5 [(qo0, .inr (3, [.ref rv_4, .ref rk_4, .ref pt_4, .ref sp_4])), (rv_4, .inr (1, [.ref av_4, .int (nI 0)])), (av_4, .inl (kv_4, 100, .inl (fun _ => 0))), (rk_4, .inr (1, [.ref ak_4, .int (nI 0)])), (ak_4, .inl (kk_4, 100, .inl (fun _ => 0))), (pt_4, .inr (0, [.ref ap_4, .int (nI 0)])), (ap_4, .inl (kp_4, 100, .inl (fun _ => 0))), (sp_4, .inr (2, [.ref a1_4, .ref a2_4, .int (nI 0)])), (a1_4, .inl (k1_4, 100, .inl (fun _ => 0))), (a2_4, .inl (k2_4, 100, .inl (fun _ => 0))), (qo8, .inr (4, [.int (nI 0), .ref mv_12, .ref mk_12, .int (nI 0), .int (nI 0), .int (nI 0), .ref ms_12, .ref ml_12, .ref mc_12, .int (nI 0), .ref mf_12, .ref mn_12])), (mv_12, .inl (jv_12, 100, .inl (fun _ => 0))), (mk_12, .inl (jk_12, 100, .inl (fun _ => 0))), (ms_12, .inl (js_12, 100, .inl (fun _ => 0))), (ml_12, .inl (jl_12, 100, .inl (fun _ => 0))), (mc_12, .inl (jc_12, 10201, .inl (fun _ => 0))), (mf_12, .inl (jf_12, 100, .inl (fun _ => 0))), (mn_12, .inl (jn_12, 100, .inl (fun _ => 0)))] H := hP
  have hD : va_D A [(qo0, .inr (3, [.ref rv_4, .ref rk_4, .ref pt_4, .ref sp_4])), (rv_4, .inr (1, [.ref av_4, .int (nI 0)])), (av_4, .inl (kv_4, 100, .inl (fun _ => 0))), (rk_4, .inr (1, [.ref ak_4, .int (nI 0)])), (ak_4, .inl (kk_4, 100, .inl (fun _ => 0))), (pt_4, .inr (0, [.ref ap_4, .int (nI 0)])), (ap_4, .inl (kp_4, 100, .inl (fun _ => 0))), (sp_4, .inr (2, [.ref a1_4, .ref a2_4, .int (nI 0)])), (a1_4, .inl (k1_4, 100, .inl (fun _ => 0))), (a2_4, .inl (k2_4, 100, .inl (fun _ => 0))), (qo8, .inr (4, [.int (nI 0), .ref mv_12, .ref mk_12, .int (nI 0), .int (nI 0), .int (nI 0), .ref ms_12, .ref ml_12, .ref mc_12, .int (nI 0), .ref mf_12, .ref mn_12])), (mv_12, .inl (jv_12, 100, .inl (fun _ => 0))), (mk_12, .inl (jk_12, 100, .inl (fun _ => 0))), (ms_12, .inl (js_12, 100, .inl (fun _ => 0))), (ml_12, .inl (jl_12, 100, .inl (fun _ => 0))), (mc_12, .inl (jc_12, 10201, .inl (fun _ => 0))), (mf_12, .inl (jf_12, 100, .inl (fun _ => 0))), (mn_12, .inl (jn_12, 100, .inl (fun _ => 0)))] := hD
  refine W.widen (k := 18) (n := 11326) (by omega) (by omega) ?_
  refine lv_astore_n (lv' := [(2, .ref qo8), (1, .ref qo0), (0, .ref b)]) hx hb dL_law_15 rfl hl (by decide) rfl (fun ls hl => ?_)
  refine lv_iconst (v := 0) hx hb dL_law_16 (by decide) ?_
  refine lv_topi (fun x1 ex1 => ?_)
  obtain rfl : x1 = nI 0 := by rw [ex1]; exact nI_0.symm
  refine lv_istore_n (lv' := [(3, .int (nI 0)), (2, .ref qo8), (1, .ref qo0), (0, .ref b)]) hx hb dL_law_17 rfl hl (by decide) rfl (fun ls hl => ?_)
  subst hAe
  exact law_loop hL C0 hN qo0 rv_4 rk_4 pt_4 sp_4 av_4 ak_4 ap_4 a1_4 a2_4 qo8 mv_12 mk_12 ms_12 ml_12 mc_12 mf_12 mn_12 kv_4 kk_4 kp_4 k1_4 k2_4 jv_12 jk_12 js_12 jl_12 jc_12 jf_12 jn_12 hK (L + 7) 0 (fun _ => 0) (fun _ => 0) (fun _ => 0) (fun _ => 0) (fun _ => 0) (fun _ => 0) (fun _ => 0) (fun _ => 0) (fun _ => 0) (fun _ => 0) 0 0 0 0 0 0 (nI 0) [] (Nat.zero_le _) (Nat.zero_le _) (Nat.zero_le _) (Nat.zero_le _) (Nat.zero_le _) (Nat.zero_le _) rng_0 spIs_0 spIs_0 (by omega) _ _ hP hD hS ls (lv_sub hl [3, 2, 1, 0] rfl)
