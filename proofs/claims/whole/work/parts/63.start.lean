theorem P_last {D : va_G} {cl : List vw_C} {ws : va_W} {x : Nat × va_E} {H : Heap} (h : va_P D cl (ws ++ [x]) H) : va_P D cl ws H ∧ va_P D cl [x] H := by
  refine ⟨fun k q hk => h k q ?_, fun k q hk => h ws.length q ?_⟩
  · rw [List.getElem?_append_left (List.getElem?_eq_some_iff.mp hk).1]; exact hk
  · have h1 : k < 1 := (List.getElem?_eq_some_iff.mp hk).1
    rw [show k = 0 by omega] at hk
    rw [List.getElem?_append_right (Nat.le_refl _), Nat.sub_self]; exact hk
theorem D_last {A : Nat → Prop} {ws : va_W} {x : Nat × va_E} (h : va_D A (ws ++ [x])) : ∀ (k : Nat) (q : Nat × va_E), ws[k]? = some q → q.1 ≠ x.1 := by
  intro k q hk e
  have hl := (List.getElem?_eq_some_iff.mp hk).1
  have h1 : (ws ++ [x])[k]? = some q := by rw [List.getElem?_append_left hl]; exact hk
  have h2 : (ws ++ [x])[ws.length]? = some x := by rw [List.getElem?_append_right (Nat.le_refl _), Nat.sub_self]; rfl
  have := h.1 _ _ _ _ h1 h2 e
  omega
set_option maxHeartbeats 1000000 in
set_option maxRecDepth 100000 in
/-- the law, from its entry -/
theorem whole_start {p : Program} {e : Env} {s : State} {m : MethodId} {below : List Frame} {meth : Method} {c : Code} (l : Launch) {b L : Nat} {xs : Nat → Int32} (hL : L ≤ 3073) (C0 : lw_At p s m meth c b L xs) : W p l e room_1 s m #[Value.ref b] below meth c s.heap [] 0 0 (lw_Z below #[Value.ref b] s) (entryFrame m ([Value.ref b] : List Value).toArray 4) := by
  obtain ⟨hx, hb, hr, hml, hown, hts, hX, hbl, hlocks, hgv⟩ := id C0
  have X : CallFix p m c cL_law 4 s #[Value.ref b] WL RL := ⟨hx, hb, hml, hown, fun w h => hts w (WL_tbl h)⟩
  have hA : ∀ q : Nat, s.heap.size ≤ q → (fun q : Nat => s.heap.size ≤ q) q := fun _ h => h
  have hbA : ¬ (fun q : Nat => s.heap.size ≤ q) b := Nat.not_le.mpr hbl
  obtain ⟨G0, hK⟩ := kC_start hts
  have hO := AO_start hts
  have hS : va_S (fun q : Nat => s.heap.size ≤ q) s.heap s.heap [] := va_S.rf
  have hP : va_P (gD G0) vwCl [] s.heap := fun k q h => by simp at h
  have hD : va_D (fun q : Nat => s.heap.size ≤ q) [] := ⟨fun i j p q h => by simp at h, fun k q h => by simp at h⟩
  have hl := lv_entry ([.ref b]) (n := 4) (Nat.le_of_ble_eq_true rfl)
  rw [lg_entry_eq]
  generalize (lg_sl ([.ref b]) ++ List.replicate (4 - (lg_sl ([.ref b])).length) Slot.unset).toArray = ls at hl ⊢
  have hl : lv_has ls 4 [(0, .ref b)] := hl
  refine k_newo (C := RX2) (ci := 2) (fs := [.null, .null, .null, .int 0, .int 0, .int 0]) X hK inX2 rfl tyX2_ok hP hD hS hA tw_1_9 tw_1_10 tw_1_1 (fun j hj => by
    match j, hj with
    | 0, _ => rfl
    | 1, _ => rfl
    | 2, _ => rfl
    | 3, _ => rfl
    | 4, _ => rfl
    | 5, _ => rfl
    | k + 6, h => exact absurd h (by omega)) (Nat.le_of_ble_eq_true rfl) (Nat.le_of_ble_eq_true rfl) dL_law_0 (fun a1 H hP hD hS => ?_)
  have hP : va_P (gD G0) vwCl [(a1, .inr (2, [.null, .null, .null, .int 0, .int 0, .int 0]))] H := hP
  have hD : va_D (fun q : Nat => s.heap.size ≤ q) [(a1, .inr (2, [.null, .null, .null, .int 0, .int 0, .int 0]))] := hD
  refine W.widen (k := 1) (n := 6) (Nat.le_refl _) (Nat.le_refl _) ?_
  refine lv_dup hx hb dL_law_3 rfl ?_
  refine lv_aload_n hx hb dL_law_4 rfl (lv_at hl 0 rfl) ?_
  refine lv_iconst (v := nI 0) hx hb dL_law_5 (by decide) ?_
  refine va_calli (va_runS (g := F0 m 6 ls [.int (nI 0), .ref b, .ref a1, .ref a1]) (As := [.ref b, .int (nI 0)]) (rest := [.ref a1, .ref a1]) X (mL_cell l G0 b L xs hL) (va_cwS 2 X.2.2.2.2 (gz_S tw_2_126 tw_2_127 tw_1_0 tw_2_128) rfl rfl rfl ⟨by decide +kernel, by decide +kernel, by decide +kernel⟩ ⟨Nat.le_of_ble_eq_true rfl, Nat.le_of_ble_eq_true rfl⟩) ⟨KPl.blind, fun U hU hW => ⟨rfl, hK.warm hW, by rw [hU]; exact (hX.kept (hS.2.1 b hbl hbA)).moved hW.alike⟩⟩ rfl rfl hl.1 rfl (lv_room (Nat.le_of_ble_eq_true rfl)) dL_law_6 ⟨Nat.le_of_ble_eq_true rfl, Nat.le_of_ble_eq_true rfl⟩) hS (fun q _ h => h.elim) (fun q h => h.elim) (fun x0 _ t H1 locs ht hvm hx0 _ hz1 hk1 hS => ?_)
  replace hP := hP.kept fun k q hk => hk1 _ (hP k q hk).lt fun h => h
  generalize H1 = H at hP hS ⊢
  refine W.widen (k := 1) (n := 6) (Nat.le_refl _) (Nat.le_refl _) ?_
  have hFc := va_free (wc := [(a1, .inr (2, [.null, .null, .null, .int 0, .int 0, .int 0]))]) hD hS hA [0] rfl
  refine va_callv (k_runIX (As := [.int x0]) (rest := [.ref a1]) X hK hO hP (m2_init l G0 a1 H.size x0) ⟨rfl, rfl⟩ tw_1_11 tw_1_12 tw_1_1 tw_1_13 rfl ⟨by decide +kernel, by decide +kernel, (by decide +kernel : (parseMethodDescriptor yX2_init.desc).map (fun d => d.parameters.length) = some 1)⟩ ⟨Nat.le_of_ble_eq_true rfl, Nat.le_of_ble_eq_true rfl⟩ hl.1 rfl (Nat.le_of_ble_eq_true rfl) ⟨Nat.le_of_ble_eq_true rfl, Nat.le_of_ble_eq_true rfl⟩ dL_law_9) hS (fun q _ h => hFc q h) hFc (fun _ t H1 locs ht hvm _ hB hz1 hk1 hS => ?_)
  obtain ⟨L1, hL1, hP1, hD1⟩ := hB
  rw [ht] at hP1
  replace hD1 := hD1.weaken fun k q _ h => hFc q.1 h
  clear hP hD hFc hk1
  subst hL1
  obtain ⟨n, hn⟩ : ∃ n, szN x0 = n := ⟨_, rfl⟩
  have hn4 := (szN_in x0).1
  have hn10 := (szN_in x0).2
  rw [hn] at hP1 hD1 hn4 hn10
  generalize H1 = H at hP1 hS ⊢
  refine W.widen (k := 61) (n := 2692) (Nat.le_refl _) (Nat.le_refl _) ?_
  refine lv_astore_n (lv' := [(1, .ref (L1 0)), (0, .ref b)]) hx hb dL_law_12 rfl hl (by decide) rfl (fun ls hl => ?_)
  refine k_newo (C := RX3) (ci := 3) (fs := [.int 0, .int 0, .null, .null, .null, .int 0, .int 0, .null, .null, .null, .null, .null, .null, .null, .null, .int 0, .int 0, .null, .int 0, .null, .null, .null, .int 0, .int 0, .int 0, .null, .null]) X hK inX3 rfl tyX3_ok hP1 hD1 hS hA tw_2_129 tw_2_130 tw_1_6 (fun j hj => by
    match j, hj with
    | 0, _ => rfl
    | 1, _ => rfl
    | 2, _ => rfl
    | 3, _ => rfl
    | 4, _ => rfl
    | 5, _ => rfl
    | 6, _ => rfl
    | 7, _ => rfl
    | 8, _ => rfl
    | 9, _ => rfl
    | 10, _ => rfl
    | 11, _ => rfl
    | 12, _ => rfl
    | 13, _ => rfl
    | 14, _ => rfl
    | 15, _ => rfl
    | 16, _ => rfl
    | 17, _ => rfl
    | 18, _ => rfl
    | 19, _ => rfl
    | 20, _ => rfl
    | 21, _ => rfl
    | 22, _ => rfl
    | 23, _ => rfl
    | 24, _ => rfl
    | 25, _ => rfl
    | 26, _ => rfl
    | k + 27, h => exact absurd h (by omega)) (Nat.le_of_ble_eq_true rfl) (Nat.le_of_ble_eq_true rfl) dL_law_13 (fun a2 H hP hD hS => ?_)
  obtain ⟨hP1, hP2⟩ := P_last hP
  have hap := D_last hD
  have ha2 : s.heap.size ≤ a2 := hD.2 (wC (kL G0 L1 n) (u0 n)).length (a2, .inr (3, [.int 0, .int 0, .null, .null, .null, .int 0, .int 0, .null, .null, .null, .null, .null, .null, .null, .null, .int 0, .int 0, .null, .int 0, .null, .null, .null, .int 0, .int 0, .int 0, .null, .null])) (by rw [List.getElem?_append_right (Nat.le_refl _), Nat.sub_self]; rfl)
  clear hP hD
  refine W.widen (k := 62) (n := 2719) (Nat.le_refl _) (Nat.le_refl _) ?_
  refine lv_dup hx hb dL_law_16 rfl ?_
  refine lv_aload_n hx hb dL_law_17 rfl (lv_at hl 1 rfl) ?_
  refine lv_iconst (v := nI 0) hx hb dL_law_18 (by decide) ?_
  refine va_calli (va_runS (g := F0 m 19 ls [.int (nI 0), .ref b, .ref a2, .ref a2]) (As := [.ref b, .int (nI 0)]) (rest := [.ref a2, .ref a2]) X (mL_cell l G0 b L xs hL) (va_cwS 2 X.2.2.2.2 (gz_S tw_2_126 tw_2_127 tw_1_0 tw_2_128) rfl rfl rfl ⟨by decide +kernel, by decide +kernel, by decide +kernel⟩ ⟨Nat.le_of_ble_eq_true rfl, Nat.le_of_ble_eq_true rfl⟩) ⟨KPl.blind, fun U hU hW => ⟨rfl, hK.warm hW, by rw [hU]; exact (hX.kept (hS.2.1 b hbl hbA)).moved hW.alike⟩⟩ rfl rfl hl.1 rfl (lv_room (Nat.le_of_ble_eq_true rfl)) dL_law_19 ⟨Nat.le_of_ble_eq_true rfl, Nat.le_of_ble_eq_true rfl⟩) hS (fun q _ h => h.elim) (fun q h => h.elim) (fun x1 _ t H1 locs ht hvm hx1 _ hz1 hk1 hS => ?_)
  replace hP1 := hP1.kept fun k q hk => hk1 _ (hP1 k q hk).lt fun h => h
  replace hP2 := hP2.kept fun k q hk => hk1 _ (hP2 k q hk).lt fun h => h
  clear hk1
  generalize H1 = H at hP1 hP2 hS ⊢
  obtain rfl : x1 = x0 := hx1.trans hx0.symm
  refine W.widen (k := 62) (n := 2719) (Nat.le_refl _) (Nat.le_refl _) ?_
  have hFc : ∀ q, va_A [(a2, .inr (3, [.int 0, .int 0, .null, .null, .null, .int 0, .int 0, .null, .null, .null, .null, .null, .null, .null, .null, .int 0, .int 0, .null, .int 0, .null, .null, .null, .int 0, .int 0, .int 0, .null, .null]))] H.size q → s.heap.size ≤ q := fun q h => (A_one' h).elim (fun e => by rw [e]; exact ha2) (fun h => Nat.le_trans hS.1 h)
  refine va_callv (k_runIX (As := [.int x1]) (rest := [.ref a2]) X hK hO hP2 (m3_init l G0 a2 H.size x1) ⟨rfl, rfl⟩ tw_2_131 tw_2_132 tw_1_6 tw_2_133 rfl ⟨by decide +kernel, by decide +kernel, (by decide +kernel : (parseMethodDescriptor yX3_init.desc).map (fun d => d.parameters.length) = some 1)⟩ ⟨Nat.le_of_ble_eq_true rfl, Nat.le_of_ble_eq_true rfl⟩ hl.1 rfl (Nat.le_of_ble_eq_true rfl) ⟨Nat.le_of_ble_eq_true rfl, Nat.le_of_ble_eq_true rfl⟩ dL_law_22) hS (fun q _ h => hFc q h) hFc (fun _ t H1 locs ht hvm _ hB hz1 hk1 hS => ?_)
  obtain ⟨q7, q15, q23, q36, q44, q52, q60, q68, q77, q86, q95, q104, q112, q120, q128, q137, q145, f, g, hf, hg, hP3, hD3⟩ := hB
  rw [ht] at hP3
  rw [hn] at hf hP3 hD3
  have hP3 := fin3 hf hg hP3
  have hD3 := fin3D hD3
  have hout : ∀ (k : Nat) (q : Nat × va_E), (wC (kL G0 L1 n) (u0 n))[k]? = some q → ¬ va_A [(a2, .inr (3, [.int 0, .int 0, .null, .null, .null, .int 0, .int 0, .null, .null, .null, .null, .null, .null, .null, .null, .int 0, .int 0, .null, .int 0, .null, .null, .null, .int 0, .int 0, .int 0, .null, .null]))] H.size q.1 := fun k q hk h => by
    rcases A_one' h with h | h
    · exact hap k q hk h
    · have := (hP1 k q hk).lt; omega
  have h1 := hP1.kept fun k q hk => hk1 _ (hP1 k q hk).lt (hout k q hk)
  have hF : lwF G0 L1 (LR3 a2 q7 q15 q23 q36 q44 q52 q60 q68 q77 q86 q95 q104 q112 q120 q128 q137 q145) n s := by
    refine ⟨fun i j hi hj h => hD1.1 i j _ _ (wC_at _ (u0 n) hi) (wC_at _ (u0 n) hj) h, fun i j hi hj h => hD3.1 i j _ _ (wR_g _ (M0 n, Y0) hi) (wR_g _ (M0 n, Y0) hj) h, ?_, ?_, ?_⟩
    · rintro q ⟨k, hk, rfl⟩
      exact hD1.2 k _ (wC_at _ (u0 n) hk)
    · rintro q ⟨k, hk, rfl⟩
      exact hFc _ (hD3.2 k _ (wR_g _ (M0 n, Y0) hk))
    · rintro q ⟨k, hk, rfl⟩ ⟨j, hj, h⟩
      refine hout k _ (wC_at _ (u0 n) hk) ?_
      rw [show (gL (kL G0 L1 n) k, ctC (kL G0 L1 n) (u0 n) k).1 = gL (kL G0 (LR3 a2 q7 q15 q23 q36 q44 q52 q60 q68 q77 q86 q95 q104 q112 q120 q128 q137 q145) n) j from h]
      exact hD3.2 j _ (wR_g _ (M0 n, Y0) hj)
  generalize H1 = H at h1 hP3 hS ⊢
  refine W.widen (k := 79) (n := 18440) (Nat.le_refl _) (Nat.le_refl _) ?_
  refine lv_astore_n (lv' := [(2, .ref a2), (1, .ref (L1 0)), (0, .ref b)]) hx hb dL_law_25 rfl hl (by decide) rfl (fun ls hl => ?_)
  refine lv_iconst (v := nI 1) hx hb dL_law_26 (by decide) ?_
  refine lv_istore_n (lv' := [(3, .int (nI 1)), (2, .ref a2), (1, .ref (L1 0)), (0, .ref b)]) hx hb dL_law_27 rfl hl (by decide) rfl (fun ls hl => ?_)
  exact law_loop hL C0 hK hF (L + 6) 1 (u0 n) Y0 (by omega) (Nat.le_refl _) (by omega) (inv_0 (kL G0 L1 n) hn4 hn10) (invY_0 n) _ _ _ h1 hP3 hS hl
