set_option maxHeartbeats 4000000 in
set_option maxRecDepth 100000 in
theorem m3_settle (l : Launch) (G : kG) (u : CS) (Y : YS) (hL : layR G) (hI : Inv G u) (hY : InvY (gn G) u.1 Y) : KMi l G (AR G) (wR G) yX3_settle cX3_settle 5 (Option.some FieldType.int) ({ frames := 6, cells := 0, slots := 0, locals := 138 }) [.ref (gL G 0)] (u.1, Y) (fun zz rr => RP (gn G) (pSettle (gn G) u) zz rr) := by
  refine K_of (by decide) (Nat.le_of_ble_eq_true rfl) ?_
  intro p e s m below meth c X hr hlocks hnm hK hP ls hl
  have hx := X.1
  have hb := X.2.1
  have hown := X.2.2.2.1
  have hts := X.2.2.2.2
  have hS : va_S (AR G) s.heap s.heap [] := va_S.rf
  have hl : lv_has ls 5 [(0, .ref (gL G 0))] := hl
  have hk : okR G (u.1, Y) := okR_of hI.1.1 Y
  obtain ⟨⟨kn4, kn10⟩, ⟨kT1, kT61⟩, kP40, kLd, kPar, kEp, kHt, kVf⟩ := id hk
  dsimp only at kT1 kT61 kP40 kLd kPar kEp kHt kVf
  refine lv_aload_n hx hb dX3_settle_0 rfl (lv_at hl 0 rfl) ?_
  refine lv_iconst (v := nI 0) hx hb dX3_settle_1 (by decide) ?_
  refine k_put (v := .int (nI 0)) X hK inX3 rfl tyX3_ok nmX3 hP (wR_D hL _) hS (wR_g G ((u.1, Y)) (k := 0) (by decide)) 0 (by decide) tw_2_135 rfl rfl rfl (Nat.le_of_ble_eq_true rfl) ((u.1, Y)) (rs_th G ((u.1, Y))) dX3_settle_2 (fun H locs hP hS => ?_)
  refine lv_iconst (v := nI 0) hx hb dX3_settle_5 (by decide) ?_
  refine lv_istore_n (lv' := [(1, .int (nI 0)), (0, .ref (gL G 0))]) hx hb dX3_settle_6 rfl hl (by decide) rfl (fun ls hl => ?_)
  refine lv_iconst (v := nI 1) hx hb dX3_settle_7 (by decide) ?_
  refine lv_istore_n (lv' := [(2, .int (nI 1)), (1, .int (nI 0)), (0, .ref (gL G 0))]) hx hb dX3_settle_8 rfl hl (by decide) rfl (fun ls hl => ?_)
  have loop_9 : ∀ (d_9 : Nat) (k : Nat) (w : CS) (mi : Nat) (Y1 : YS) (a : Nat), 2 * (6600 - mC w.1) + mi = d_9 → (w = stl (gn G) u k) → (InvY (gn G) w.1 Y1) → (a + mC u.1 = mC w.1) → (mi = 1 ∨ (mi = 0 ∧ uwN w.1 (gn G) = 0)) → (k ≤ a) → ∀ (H : Heap) (locs : List Loc) (ls : Array Slot), va_P (gD G) vwCl ((wR G) ((w.1, Y1))) H → va_S (AR G) s.heap H locs → lv_has ls 5 [(0, .ref (gL G 0)), (1, .int (nI a)), (2, .int (nI mi))] → W p l e ({ frames := 6, cells := 0, slots := 0, locals := 138 } : Room) s m ([.ref (gL G 0)] : List Value).toArray below meth c H locs 0 0 (MQ below (va_Qi (fun zz rr => RP (gn G) (pSettle (gn G) u) zz rr) (KB G (wR G)) (AR G)) ([.ref (gL G 0)] : List Value).toArray s 0 0 (AR G)) (F0 m 9 ls []) := by
    intro d_9
    induction d_9 using Nat.strongRecOn with
    | ind d_9 ih_9 =>
      intro k w mi Y1 a hd_9 hw hYw ha hm hka H locs ls hP hS hl
      have hIw : Inv G w := by rw [hw]; exact stl_inv hI k
      have hcw : mC w.1 ≤ 6600 := Nat.le_trans hIw.2 (hc_le _)
      refine lv_iload_n hx hb dX3_settle_9 rfl (lv_at hl 2 rfl) ?_
      refine lv_if_eq (tgt := 56) hx hb dX3_settle_10 (by decide) (fun c_10 => ?_) (fun c_10 => ?_)
      · have c_10 : mi = 0 := czEq c_10 (by omega) (by omega)
        refine lv_iload_n hx hb dX3_settle_56 rfl (lv_at hl 1 rfl) ?_
        exact k_reti X hr hlocks hP hS dX3_settle_57 (rp (w := w) (by rw [pSettle, show stl (gn G) u 6601 = w from by (have e := stl_stop (n := gn G) (u := u) (i := k) (by rw [← hw]; omega) (6601 - k); rw [show k + (6601 - k) = 6601 by omega, ← hw] at e; exact e), pk_sub (by omega), show mC w.1 - mC u.1 = a by omega]) hYw)
      · have c_10 : mi ≠ 0 := czNe c_10 (by omega) (by omega)
        refine lv_iload_n hx hb dX3_settle_13 rfl (lv_at hl 1 rfl) ?_
        refine lv_istore_n (lv' := [(3, .int (nI a)), (0, .ref (gL G 0)), (1, .int (nI a)), (2, .int (nI mi))]) hx hb dX3_settle_14 rfl hl (by decide) rfl (fun ls hl => ?_)
        refine lv_iconst (v := nI 0) hx hb dX3_settle_15 (by decide) ?_
        refine lv_istore (lv' := [(4, .int (nI 0)), (3, .int (nI a)), (0, .ref (gL G 0)), (1, .int (nI a)), (2, .int (nI mi))]) hx hb dX3_settle_16 hl (by decide) rfl (fun ls hl => ?_)
        have loop_18 : ∀ (d_18 : Nat) (i : Nat) (w1 : CS) (Y2 : YS) (a1 : Nat), gn G - i = d_18 → (i ≤ gn G) → (w1 = rnd (gn G) w i) → (InvY (gn G) w1.1 Y2) → (a1 + mC u.1 = mC w1.1) → ∀ (H : Heap) (locs : List Loc) (ls : Array Slot), va_P (gD G) vwCl ((wR G) ((w1.1, Y2))) H → va_S (AR G) s.heap H locs → lv_has ls 5 [(0, .ref (gL G 0)), (1, .int (nI a1)), (2, .int (nI mi)), (3, .int (nI a)), (4, .int (nI i))] → W p l e ({ frames := 6, cells := 0, slots := 0, locals := 138 } : Room) s m ([.ref (gL G 0)] : List Value).toArray below meth c H locs 0 0 (MQ below (va_Qi (fun zz rr => RP (gn G) (pSettle (gn G) u) zz rr) (KB G (wR G)) (AR G)) ([.ref (gL G 0)] : List Value).toArray s 0 0 (AR G)) (F0 m 18 ls []) := by
          intro d_18
          induction d_18 using Nat.strongRecOn with
          | ind d_18 ih_18 =>
            intro i w1 Y2 a1 hd_18 hi hw1 hY2 ha1 H locs ls hP hS hl
            have hI1 : Inv G w1 := by rw [hw1]; exact rnd_inv hIw _ hi
            have hc1 : mC w1.1 ≤ 6600 := Nat.le_trans hI1.2 (hc_le _)
            refine lv_iload hx hb dX3_settle_18 (lv_at hl 4 rfl) ?_
            refine lv_aload_n hx hb dX3_settle_20 rfl (lv_at hl 0 rfl) ?_
            refine k_get (v := .int (nI (gn G))) X hK inX3 rfl hP (wR_g G ((w1.1, Y2)) (k := 0) (by decide)) 1 (by decide) tw_2_136 rfl dX3_settle_21 ?_
            refine lv_icmp_ge (tgt := 42) hx hb dX3_settle_24 (by decide) (fun c_24 => ?_) (fun c_24 => ?_)
            · have c_24 : (gn G) ≤ i := cLe c_24 (by omega) (by omega)
              have hin : i = gn G := by omega
              have hwn : w1 = rnd (gn G) w (gn G) := by rw [hw1, hin]
              refine lv_iload_n hx hb dX3_settle_42 rfl (lv_at hl 1 rfl) ?_
              refine lv_iload_n hx hb dX3_settle_43 rfl (lv_at hl 3 rfl) ?_
              refine lv_icmp_le (tgt := 51) hx hb dX3_settle_44 (by decide) (fun c_44 => ?_) (fun c_44 => ?_)
              · have c_44 : a1 ≤ a := cLe c_44 (by omega) (by omega)
                have hs1 : w1 = w ∧ uwN w.1 (gn G) = 0 := by
                  have := settle_same hIw (by rw [← hwn]; omega)
                  rw [← hwn] at this
                  exact this
                have hCe : mC w1.1 = mC w.1 := by rw [hs1.1]
                refine lv_iconst (v := nI 0) hx hb dX3_settle_51 (by decide) ?_
                refine lv_istore_n (lv' := [(2, .int (nI 0)), (0, .ref (gL G 0)), (1, .int (nI a1)), (3, .int (nI a)), (4, .int (nI i))]) hx hb dX3_settle_52 rfl hl (by decide) rfl (fun ls hl => ?_)
                refine lv_goto (tgt := 9) hx hb dX3_settle_53 (by decide) ?_
                exact ih_9 (2 * (6600 - mC w1.1) + 0) (by omega) k w1 0 Y2 a1 rfl (by rw [hs1.1]; exact hw) (hY2) (ha1) (Or.inr ⟨rfl, by rw [hs1.1]; exact hs1.2⟩) (by omega) _ _ _ hP hS (lv_sub hl [1, 2, 0] rfl)
              · have c_44 : a < a1 := cNle c_44 (by omega) (by omega)
                have hC2 : mC w.1 < mC w1.1 := by omega
                refine lv_iconst (v := nI 1) hx hb dX3_settle_47 (by decide) ?_
                refine lv_goto (tgt := 52) hx hb dX3_settle_48 (by decide) ?_
                refine lv_istore_n (lv' := [(2, .int (nI 1)), (0, .ref (gL G 0)), (1, .int (nI a1)), (3, .int (nI a)), (4, .int (nI i))]) hx hb dX3_settle_52 rfl hl (by decide) rfl (fun ls hl => ?_)
                refine lv_goto (tgt := 9) hx hb dX3_settle_53 (by decide) ?_
                exact ih_9 (2 * (6600 - mC w1.1) + 1) (by omega) (k + 1) w1 1 Y2 a1 rfl (by rw [stl, ← hw, if_neg (settle_more hIw (by rw [← hwn]; omega))]; exact hwn) (hY2) (ha1) (Or.inl rfl) (by omega) _ _ _ hP hS (lv_sub hl [1, 2, 0] rfl)
            · have c_24 : i < (gn G) := cNle c_24 (by omega) (by omega)
              refine lv_iload_n hx hb dX3_settle_27 rfl (lv_at hl 1 rfl) ?_
              refine lv_aload_n hx hb dX3_settle_28 rfl (lv_at hl 0 rfl) ?_
              refine lv_iload hx hb dX3_settle_29 (lv_at hl 4 rfl) ?_
              refine k_ci (k_runV (As := [.int (nI i)]) (rest := [.int (nI a1)]) X hK hP (wR_g G ((w1.1, Y2)) (k := 0) (by decide)) rfl (m3_flowTo l G w1 Y2 hL hI1 hY2 (v := i) (by omega)) ⟨rfl, rfl⟩ tw_3_49 tw_3_51 tw_0_35 tw_1_6 tw_3_52 ⟨by decide +kernel, by decide +kernel, (by decide +kernel : (parseMethodDescriptor yX3_flowTo.desc).map (fun d => d.parameters.length) = some 1)⟩ ⟨Nat.le_of_ble_eq_true rfl, Nat.le_of_ble_eq_true rfl⟩ hl.1 rfl (Nat.le_of_ble_eq_true rfl) ⟨Nat.zero_le _, Nat.zero_le _⟩ dX3_settle_31) hS (fun r_31 u_31 H locs hq_31 hP hS => ?_)
              obtain ⟨M_31, Y_31⟩ := u_31
              obtain ⟨hz_31, hM_31, hY_31⟩ := hq_31
              dsimp only at hM_31 hY_31
              subst hM_31
              refine k_ti hz_31 ?_
              refine lv_iadd hx hb dX3_settle_34 ?_
              refine k_ti (nI_add a1 (mC (cFlow (gn G) w1 i).1 - mC w1.1)) ?_
              refine lv_istore_n (lv' := [(1, .int (nI (a1 + (mC (cFlow (gn G) w1 i).1 - mC w1.1)))), (0, .ref (gL G 0)), (2, .int (nI mi)), (3, .int (nI a)), (4, .int (nI i))]) hx hb dX3_settle_35 rfl hl (by decide) rfl (fun ls hl => ?_)
              refine lv_iinc (v := nI (i + 1)) (lv' := [(4, .int (nI (i + 1))), (1, .int (nI (a1 + (mC (cFlow (gn G) w1 i).1 - mC w1.1)))), (0, .ref (gL G 0)), (2, .int (nI mi)), (3, .int (nI a))]) hx hb dX3_settle_36 hl (k := 4) rfl (nI_add i 1) (by decide) rfl (fun ls hl => ?_)
              refine lv_goto (tgt := 18) hx hb dX3_settle_39 (by decide) ?_
              exact ih_18 (gn G - (i + 1)) (by omega) (i + 1) (cFlow (gn G) w1 i) Y_31 (a1 + (mC (cFlow (gn G) w1 i).1 - mC w1.1)) rfl (by omega) (by rw [rnd, ← hw1]) (hY_31) (by have := flow_C_le hI1 (v := i) (by omega); omega) _ _ _ hP hS (lv_sub hl [2, 1, 3, 4, 0] rfl)
        exact loop_18 _ 0 w Y1 a rfl (Nat.zero_le _) (rfl) (hYw) (ha) _ _ _ hP hS (lv_sub hl [2, 3, 4, 1, 0] rfl)
  exact loop_9 _ 0 u 1 Y 0 rfl (rfl) (hY) (Nat.zero_add _) (Or.inl rfl) (Nat.le_refl _) _ _ _ hP hS (lv_sub hl [2, 1, 0] rfl)

set_option maxHeartbeats 4000000 in
set_option maxRecDepth 100000 in
theorem m3_propose (l : Launch) (G : kG) (u : CS) (Y : YS) (hL : layR G) (hI : Inv G u) (hY : InvY (gn G) u.1 Y) (x y z w t : Int32) : KMi l G (AR G) (wR G) yX3_propose cX3_propose 8 (Option.some FieldType.int) ({ frames := 2, cells := 0, slots := 0, locals := 46 }) [.ref (gL G 0), .int (x), .int (y), .int (z), .int (w), .int (t)] (u.1, Y) (fun zz rr => RP (gn G) (pPropose (gn G) u x y z w t) zz rr) := by
  refine K_of (by decide) (Nat.le_of_ble_eq_true rfl) ?_
  intro p e s m below meth c X hr hlocks hnm hK hP ls hl
  have hx := X.1
  have hb := X.2.1
  have hown := X.2.2.2.1
  have hts := X.2.2.2.2
  have hS : va_S (AR G) s.heap s.heap [] := va_S.rf
  have hl : lv_has ls 8 [(0, .ref (gL G 0)), (1, .int (x)), (2, .int (y)), (3, .int (z)), (4, .int (w)), (5, .int (t))] := hl
  have hk : okR G (u.1, Y) := okR_of hI.1.1 Y
  obtain ⟨⟨kn4, kn10⟩, ⟨kT1, kT61⟩, kP40, kLd, kPar, kEp, kHt, kVf⟩ := id hk
  dsimp only at kT1 kT61 kP40 kLd kPar kEp kHt kVf
  refine lv_aload_n hx hb dX3_propose_0 rfl (lv_at hl 0 rfl) ?_
  refine lv_iconst (v := nI 0) hx hb dX3_propose_1 (by decide) ?_
  refine k_put (v := .int (nI 0)) X hK inX3 rfl tyX3_ok nmX3 hP (wR_D hL _) hS (wR_g G ((u.1, Y)) (k := 0) (by decide)) 0 (by decide) tw_2_135 rfl rfl rfl (Nat.le_of_ble_eq_true rfl) ((u.1, Y)) (rs_th G ((u.1, Y))) dX3_propose_2 (fun H locs hP hS => ?_)
  refine lv_aload_n hx hb dX3_propose_5 rfl (lv_at hl 0 rfl) ?_
  refine lv_iload_n hx hb dX3_propose_6 rfl (lv_at hl 1 rfl) ?_
  refine k_ci (k_runV (As := [.int (x)]) (rest := []) X hK hP (wR_g G ((u.1, Y)) (k := 0) (by decide)) rfl (m3_isNode l G ((u.1, Y)) hL (hk) x) ⟨rfl, rfl⟩ tw_2_229 tw_2_231 tw_0_27 tw_1_6 tw_2_232 ⟨by decide +kernel, by decide +kernel, (by decide +kernel : (parseMethodDescriptor yX3_isNode.desc).map (fun d => d.parameters.length) = some 1)⟩ ⟨Nat.le_of_ble_eq_true rfl, Nat.le_of_ble_eq_true rfl⟩ hl.1 rfl (Nat.le_of_ble_eq_true rfl) ⟨Nat.zero_le _, Nat.zero_le _⟩ dX3_propose_7) hS (fun r_7 u_7 H locs hq_7 hP hS => ?_)
  have hP := k_su hq_7.1 hP
  rcases hq_7.2 with ⟨j_7, hj_7, hx_7, hr_7⟩ | ⟨hz_7, hr_7⟩
  · subst hx_7
    subst hr_7
    replace hj_7 : j_7 < gn G := hj_7
    refine lv_if_eq (tgt := 37) hx hb dX3_propose_10 (by decide) (fun c_10 => ?_) (fun c_10 => ?_)
    · exact absurd c_10 (by decide)
    · refine lv_aload_n hx hb dX3_propose_13 rfl (lv_at hl 0 rfl) ?_
      refine lv_iload_n hx hb dX3_propose_14 rfl (lv_at hl 2 rfl) ?_
      refine k_ci (k_runV (As := [.int (y)]) (rest := []) X hK hP (wR_g G ((u.1, Y)) (k := 0) (by decide)) rfl (m3_isBlock l G ((u.1, Y)) hL (hk) y) ⟨rfl, rfl⟩ tw_3_33 tw_3_35 tw_0_33 tw_1_6 tw_3_36 ⟨by decide +kernel, by decide +kernel, (by decide +kernel : (parseMethodDescriptor yX3_isBlock.desc).map (fun d => d.parameters.length) = some 1)⟩ ⟨Nat.le_of_ble_eq_true rfl, Nat.le_of_ble_eq_true rfl⟩ hl.1 rfl (Nat.le_of_ble_eq_true rfl) ⟨Nat.zero_le _, Nat.zero_le _⟩ dX3_propose_15) hS (fun r_15 u_15 H locs hq_15 hP hS => ?_)
      have hP := k_su hq_15.1 hP
      rcases hq_15.2 with ⟨j_15, hj_15, hx_15, hr_15⟩ | ⟨hz_15, hr_15⟩
      · subst hx_15
        subst hr_15
        replace hj_15 : j_15 < mT u.1 := hj_15
        refine lv_if_eq (tgt := 37) hx hb dX3_propose_18 (by decide) (fun c_18 => ?_) (fun c_18 => ?_)
        · exact absurd c_18 (by decide)
        · refine lv_iload_n hx hb dX3_propose_21 rfl (lv_at hl 3 rfl) ?_
          refine k_ci (k_runS (As := [.int (z)]) (rest := []) X hK hP (m3_isEpoch l G (AR G) (wR G) ((u.1, Y)) z) ⟨rfl, rfl⟩ tw_2_222 tw_2_223 tw_1_6 tw_2_224 ⟨by decide +kernel, by decide +kernel, (by decide +kernel : (parseMethodDescriptor yX3_isEpoch.desc).map (fun d => d.parameters.length) = some 1)⟩ ⟨Nat.le_of_ble_eq_true rfl, Nat.le_of_ble_eq_true rfl⟩ hl.1 rfl (Nat.le_of_ble_eq_true rfl) ⟨Nat.zero_le _, Nat.zero_le _⟩ dX3_propose_22) hS (fun r_22 u_22 H locs hq_22 hP hS => ?_)
          have hP := k_su hq_22.1 hP
          rcases hq_22.2 with ⟨j_22, hj_22, hx_22, hr_22⟩ | ⟨hz_22, hr_22⟩
          · subst hx_22
            subst hr_22
            refine lv_if_eq (tgt := 37) hx hb dX3_propose_25 (by decide) (fun c_25 => ?_) (fun c_25 => ?_)
            · exact absurd c_25 (by decide)
            · refine lv_aload_n hx hb dX3_propose_28 rfl (lv_at hl 0 rfl) ?_
              refine lv_iload hx hb dX3_propose_29 (lv_at hl 5 rfl) ?_
              refine k_ci (k_runV (As := [.int (t)]) (rest := []) X hK hP (wR_g G ((u.1, Y)) (k := 0) (by decide)) rfl (m3_isTo l G ((u.1, Y)) hL (hk) t) ⟨rfl, rfl⟩ tw_3_61 tw_3_63 tw_0_36 tw_1_6 tw_3_64 ⟨by decide +kernel, by decide +kernel, (by decide +kernel : (parseMethodDescriptor yX3_isTo.desc).map (fun d => d.parameters.length) = some 1)⟩ ⟨Nat.le_of_ble_eq_true rfl, Nat.le_of_ble_eq_true rfl⟩ hl.1 rfl (Nat.le_of_ble_eq_true rfl) ⟨Nat.zero_le _, Nat.zero_le _⟩ dX3_propose_31) hS (fun r_31 u_31 H locs hq_31 hP hS => ?_)
              have hP := k_su hq_31.1 hP
              rcases hq_31.2 with ⟨hz_31, hr_31⟩ | ⟨hz_31, hr_31⟩
              · subst hr_31
                refine lv_if_ne (tgt := 40) hx hb dX3_propose_34 (by decide) (fun c_34 => ?_) (fun c_34 => ?_)
                · refine lv_aload_n hx hb dX3_propose_40 rfl (lv_at hl 0 rfl) ?_
                  refine k_get (v := .ref (gL G 1)) X hK inX3 rfl hP (wR_g G ((u.1, Y)) (k := 0) (by decide)) 2 (by decide) tw_2_137 rfl dX3_propose_41 ?_
                  refine lv_iload_n hx hb dX3_propose_44 rfl (lv_at hl 1 rfl) ?_
                  refine k_zld (k := j_7) (v := bI (mFa u.1 j_7)) X hK hP (wR_g G ((u.1, Y)) (k := 1) (by decide)) (by omega) (by decide) rfl dX3_propose_45 ?_
                  refine lv_if_eq (tgt := 59) hx hb dX3_propose_46 (by decide) (fun c_46 => ?_) (fun c_46 => ?_)
                  · have c_46 : (mFa u.1 j_7) = false := (bI_eq0 _).mp c_46
                    refine lv_bipush (v := -3) hx hb dX3_propose_59 (by decide) ?_
                    exact k_reti X hr hlocks hP hS dX3_propose_61 (rp (w := u) (by simp only [pPropose, ix_some hj_7 (show gn G < 2 ^ 31 by omega), ix_some hj_15 (show mT u.1 < 2 ^ 31 by omega), ixE_some hj_22, if_pos hz_31]; rw [if_pos (by first | (simp [c_46]; done) | (simp [c_56]; done))]) (hY))
                  · have c_46 : (mFa u.1 j_7) = true := (bI_ne0 _).mp c_46
                    refine lv_aload_n hx hb dX3_propose_49 rfl (lv_at hl 0 rfl) ?_
                    refine k_get (v := .ref (gL G 3)) X hK inX3 rfl hP (wR_g G ((u.1, Y)) (k := 0) (by decide)) 4 (by decide) tw_2_139 rfl dX3_propose_50 ?_
                    refine lv_iload_n hx hb dX3_propose_53 rfl (lv_at hl 3 rfl) ?_
                    refine k_ild (k := j_22) (v := nI (mLd u.1 j_22)) X hK hP (wR_g G ((u.1, Y)) (k := 3) (by decide)) (by omega) (by decide) rfl dX3_propose_54 ?_
                    have hLd1 := kLd j_22
                    refine lv_iload_n hx hb dX3_propose_55 rfl (lv_at hl 1 rfl) ?_
                    refine lv_icmp_eq (tgt := 62) hx hb dX3_propose_56 (by decide) (fun c_56 => ?_) (fun c_56 => ?_)
                    · have c_56 : (mLd u.1 j_22) = j_7 := cEq c_56 (by omega) (by omega)
                      refine lv_aload_n hx hb dX3_propose_62 rfl (lv_at hl 0 rfl) ?_
                      refine k_get (v := .int (nI (mT u.1))) X hK inX3 rfl hP (wR_g G ((u.1, Y)) (k := 0) (by decide)) 6 (by decide) tw_2_141 rfl dX3_propose_63 ?_
                      refine lv_bipush (v := nI 61) hx hb dX3_propose_66 (by decide) ?_
                      refine lv_icmp_ne (tgt := 74) hx hb dX3_propose_68 (by decide) (fun c_68 => ?_) (fun c_68 => ?_)
                      · have c_68 : (mT u.1) ≠ 61 := cNe c_68 (by omega) (by omega)
                        refine lv_aload_n hx hb dX3_propose_74 rfl (lv_at hl 0 rfl) ?_
                        refine lv_iload_n hx hb dX3_propose_75 rfl (lv_at hl 2 rfl) ?_
                        refine lv_iload_n hx hb dX3_propose_76 rfl (lv_at hl 3 rfl) ?_
                        refine lv_iload hx hb dX3_propose_77 (lv_at hl 4 rfl) ?_
                        refine lv_iload_n hx hb dX3_propose_79 rfl (lv_at hl 1 rfl) ?_
                        refine k_ci (k_runV (As := [.int (nI j_15), .int (nI j_22), .int (w), .int (nI j_7)]) (rest := []) X hK hP (wR_g G ((u.1, Y)) (k := 0) (by decide)) rfl (m3_newBlock l G ((u.1, Y)) hL (hk) (o := j_15) (e0 := j_22) (v := j_7) (show j_15 < mT u.1 by omega) (show mT u.1 ≤ 60 by omega) w) ⟨rfl, rfl⟩ tw_3_17 tw_3_19 tw_0_30 tw_1_6 tw_3_20 ⟨by decide +kernel, by decide +kernel, (by decide +kernel : (parseMethodDescriptor yX3_newBlock.desc).map (fun d => d.parameters.length) = some 4)⟩ ⟨Nat.le_of_ble_eq_true rfl, Nat.le_of_ble_eq_true rfl⟩ hl.1 rfl (Nat.le_of_ble_eq_true rfl) ⟨Nat.zero_le _, Nat.zero_le _⟩ dX3_propose_80) hS (fun r_80 u_80 H locs hq_80 hP hS => ?_)
                        have hP := k_su hq_80.2 hP
                        refine k_ti hq_80.1 ?_
                        have hT60 : mT u.1 ≤ 60 := by omega
                        have hIm : Inv G (cMake u j_15 j_22 w j_7) := ⟨Inv0_make hI.1 w hj_15 hj_22.1 hj_22.2 hT60, hI.2⟩
                        have hYm : InvY (gn G) (cMake u j_15 j_22 w j_7).1 Y := InvY_make hI.1 hY _ _ _ _
                        have hkm : okR G ((cMake u j_15 j_22 w j_7).1, Y) := okR_of hIm.1.1 Y
                        refine lv_istore (lv' := [(6, .int (nI (mT u.1))), (0, .ref (gL G 0)), (1, .int (nI j_7)), (2, .int (nI j_15)), (3, .int (nI j_22)), (4, .int (w)), (5, .int (t))]) hx hb dX3_propose_83 hl (by decide) rfl (fun ls hl => ?_)
                        refine lv_aload_n hx hb dX3_propose_85 rfl (lv_at hl 1 rfl) ?_
                        refine lv_iload_n hx hb dX3_propose_86 rfl (lv_at hl 2 rfl) ?_
                        refine lv_iload hx hb dX3_propose_87 (lv_at hl 0 rfl) ?_
                        refine lv_iconst (v := -1) hx hb dX3_propose_89 (by decide) ?_
                        refine k_ci (k_runS (As := [.int (nI (mT u.1)), .int (-1)]) (rest := [.int (nI j_7), .ref (gL G 0)]) X hK hP (m3_letterN l G (AR G) (wR G) (((cMake u j_15 j_22 w j_7).1, Y)) (mT u.1)) ⟨rfl, rfl⟩ tw_3_10 tw_3_11 tw_1_6 tw_3_12 ⟨by decide +kernel, by decide +kernel, (by decide +kernel : (parseMethodDescriptor yX3_letter.desc).map (fun d => d.parameters.length) = some 2)⟩ ⟨Nat.le_of_ble_eq_true rfl, Nat.le_of_ble_eq_true rfl⟩ hl.1 rfl (Nat.le_of_ble_eq_true rfl) ⟨Nat.zero_le _, Nat.zero_le _⟩ dX3_propose_90) hS (fun r_90 u_90 H locs hq_90 hP hS => ?_)
                        have hP := k_su hq_90.2 hP
                        refine k_ti hq_90.1 ?_
                        refine k_cv (k_runV (As := [.int (nI j_7), .int (nI (11 * (mT u.1)))]) (rest := []) X hK hP (wR_g G (((cMake u j_15 j_22 w j_7).1, Y)) (k := 0) (by decide)) rfl (m3_gain l G (((cMake u j_15 j_22 w j_7).1, Y)) hL (hkm) (v := j_7) (l0 := (11 * (mT u.1))) (by omega) (by omega)) ⟨rfl, rfl⟩ tw_3_21 tw_3_23 tw_0_31 tw_1_6 tw_3_24 ⟨by decide +kernel, by decide +kernel, (by decide +kernel : (parseMethodDescriptor yX3_gain.desc).map (fun d => d.parameters.length) = some 2)⟩ ⟨Nat.le_of_ble_eq_true rfl, Nat.le_of_ble_eq_true rfl⟩ hl.1 rfl (Nat.le_of_ble_eq_true rfl) ⟨Nat.zero_le _, Nat.zero_le _⟩ dX3_propose_93) hS (fun u_93 H locs hq_93 hP hS => ?_)
                        have hP := k_su hq_93 hP
                        have hP := k_wr (tp_wR hIm.1 j_7 (mT u.1) _) hP
                        have hIt : Inv0 G (cTakeP (gn G) (cMake u j_15 j_22 w j_7) j_7 (mT u.1)) := Inv0_takeP hIm.1 hj_7 kT1 (Nat.lt_succ_self _)
                        have hYt := InvY_takeP hIm.1 hYm (v := j_7) (b := mT u.1) hj_7 kT1 (Nat.lt_succ_self _) (new_hs hI.1 j_7)
                        have hkt : okR G ((cTakeP (gn G) (cMake u j_15 j_22 w j_7) j_7 (mT u.1)).1, gnY Y (11 * mT u.1) j_7) := okR_of hIt.1 _
                        refine lv_aload_n hx hb dX3_propose_96 rfl (lv_at hl 1 rfl) ?_
                        refine lv_iload hx hb dX3_propose_97 (lv_at hl 0 rfl) ?_
                        refine lv_iconst (v := -1) hx hb dX3_propose_99 (by decide) ?_
                        refine k_ci (k_runS (As := [.int (nI (mT u.1)), .int (-1)]) (rest := [.ref (gL G 0)]) X hK hP (m3_letterN l G (AR G) (wR G) (((cTakeP (gn G) (cMake u j_15 j_22 w j_7) j_7 (mT u.1)).1, gnY Y (11 * mT u.1) j_7)) (mT u.1)) ⟨rfl, rfl⟩ tw_3_10 tw_3_11 tw_1_6 tw_3_12 ⟨by decide +kernel, by decide +kernel, (by decide +kernel : (parseMethodDescriptor yX3_letter.desc).map (fun d => d.parameters.length) = some 2)⟩ ⟨Nat.le_of_ble_eq_true rfl, Nat.le_of_ble_eq_true rfl⟩ hl.1 rfl (Nat.le_of_ble_eq_true rfl) ⟨Nat.zero_le _, Nat.zero_le _⟩ dX3_propose_100) hS (fun r_100 u_100 H locs hq_100 hP hS => ?_)
                        have hP := k_su hq_100.2 hP
                        refine k_ti hq_100.1 ?_
                        refine lv_iload hx hb dX3_propose_103 (lv_at hl 6 rfl) ?_
                        refine k_ci (k_runV (As := [.int (nI (11 * (mT u.1))), .int (t)]) (rest := []) X hK hP (wR_g G (((cTakeP (gn G) (cMake u j_15 j_22 w j_7) j_7 (mT u.1)).1, gnY Y (11 * mT u.1) j_7)) (k := 0) (by decide)) rfl (m3_send l G (((cTakeP (gn G) (cMake u j_15 j_22 w j_7) j_7 (mT u.1)).1, gnY Y (11 * mT u.1) j_7)) hL (hkt) (l0 := (11 * (mT u.1))) (by omega) t) ⟨rfl, rfl⟩ tw_3_65 tw_3_67 tw_0_37 tw_1_6 tw_3_68 ⟨by decide +kernel, by decide +kernel, (by decide +kernel : (parseMethodDescriptor yX3_send.desc).map (fun d => d.parameters.length) = some 2)⟩ ⟨Nat.le_of_ble_eq_true rfl, Nat.le_of_ble_eq_true rfl⟩ hl.1 rfl (Nat.le_of_ble_eq_true rfl) ⟨Nat.zero_le _, Nat.zero_le _⟩ dX3_propose_105) hS (fun r_105 u_105 H locs hq_105 hP hS => ?_)
                        have hP := k_su hq_105.2 hP
                        refine k_ti hq_105.1 ?_
                        refine lv_istore (lv' := [(7, .int (nI (sndC ((cTakeP (gn G) (cMake u j_15 j_22 w j_7) j_7 (mT u.1)).1) (11 * (mT u.1)) t (gn G)))), (6, .int (nI (mT u.1))), (0, .ref (gL G 0)), (1, .int (nI j_7)), (2, .int (nI j_15)), (3, .int (nI j_22)), (4, .int (w)), (5, .int (t))]) hx hb dX3_propose_108 hl (by decide) rfl (fun ls hl => ?_)
                        refine lv_iload hx hb dX3_propose_110 (lv_at hl 1 rfl) ?_
                        exact k_reti X hr hlocks hP hS dX3_propose_112 (rp (w := (sndM (cTakeP (gn G) (cMake u j_15 j_22 w j_7) j_7 (mT u.1)).1 (11 * mT u.1) t (gn G), (cTakeP (gn G) (cMake u j_15 j_22 w j_7) j_7 (mT u.1)).2)) (by simp only [pPropose, ix_some hj_7 (show gn G < 2 ^ 31 by omega), ix_some hj_15 (show mT u.1 < 2 ^ 31 by omega), ixE_some hj_22, if_pos hz_31]; rw [if_neg (by simp [c_46, c_56]), if_neg (by rw [decide_eq_true hT60]; decide)]) (InvY_snd hYt _ _ _))
                      · have c_68 : (mT u.1) = 61 := cEq c_68 (by omega) (by omega)
                        refine lv_bipush (v := -4) hx hb dX3_propose_71 (by decide) ?_
                        exact k_reti X hr hlocks hP hS dX3_propose_73 (rp (w := u) (by simp only [pPropose, ix_some hj_7 (show gn G < 2 ^ 31 by omega), ix_some hj_15 (show mT u.1 < 2 ^ 31 by omega), ixE_some hj_22, if_pos hz_31]; rw [if_neg (by simp [c_46, c_56]), if_pos (by rw [decide_eq_false (by omega)]; rfl)]) (hY))
                    · have c_56 : (mLd u.1 j_22) ≠ j_7 := cNe c_56 (by omega) (by omega)
                      refine lv_bipush (v := -3) hx hb dX3_propose_59 (by decide) ?_
                      exact k_reti X hr hlocks hP hS dX3_propose_61 (rp (w := u) (by simp only [pPropose, ix_some hj_7 (show gn G < 2 ^ 31 by omega), ix_some hj_15 (show mT u.1 < 2 ^ 31 by omega), ixE_some hj_22, if_pos hz_31]; rw [if_pos (by first | (simp [c_46]; done) | (simp [c_56]; done))]) (hY))
                · exact absurd c_34 (by decide)
              · subst hr_31
                refine lv_if_ne (tgt := 40) hx hb dX3_propose_34 (by decide) (fun c_34 => ?_) (fun c_34 => ?_)
                · exact absurd rfl c_34
                · refine lv_bipush (v := -2) hx hb dX3_propose_37 (by decide) ?_
                  exact k_reti X hr hlocks hP hS dX3_propose_39 (rp (w := u) (by simp only [pPropose, ix_some hj_7 (show gn G < 2 ^ 31 by omega), ix_some hj_15 (show mT u.1 < 2 ^ 31 by omega), ixE_some hj_22, if_neg hz_31] <;> (first | done | rfl | (split <;> first | rfl | (split <;> first | rfl | (split <;> rfl))))) (hY))
          · subst hr_22
            refine lv_if_eq (tgt := 37) hx hb dX3_propose_25 (by decide) (fun c_25 => ?_) (fun c_25 => ?_)
            · refine lv_bipush (v := -2) hx hb dX3_propose_37 (by decide) ?_
              exact k_reti X hr hlocks hP hS dX3_propose_39 (rp (w := u) (by simp only [pPropose, ix_some hj_7 (show gn G < 2 ^ 31 by omega), ix_some hj_15 (show mT u.1 < 2 ^ 31 by omega), ixE_none hz_22] <;> (first | done | rfl | (split <;> first | rfl | (split <;> first | rfl | (split <;> rfl))))) (hY))
            · exact absurd rfl c_25
      · subst hr_15
        refine lv_if_eq (tgt := 37) hx hb dX3_propose_18 (by decide) (fun c_18 => ?_) (fun c_18 => ?_)
        · refine lv_bipush (v := -2) hx hb dX3_propose_37 (by decide) ?_
          exact k_reti X hr hlocks hP hS dX3_propose_39 (rp (w := u) (by simp only [pPropose, ix_some hj_7 (show gn G < 2 ^ 31 by omega), ix_none hz_15 (show mT u.1 < 2 ^ 31 by omega)] <;> (first | done | rfl | (split <;> first | rfl | (split <;> first | rfl | (split <;> rfl))))) (hY))
        · exact absurd rfl c_18
  · subst hr_7
    refine lv_if_eq (tgt := 37) hx hb dX3_propose_10 (by decide) (fun c_10 => ?_) (fun c_10 => ?_)
    · refine lv_bipush (v := -2) hx hb dX3_propose_37 (by decide) ?_
      exact k_reti X hr hlocks hP hS dX3_propose_39 (rp (w := u) (by simp only [pPropose, ix_none hz_7 (show gn G < 2 ^ 31 by omega)] <;> (first | done | rfl | (split <;> first | rfl | (split <;> first | rfl | (split <;> rfl))))) (hY))
    · exact absurd rfl c_10

set_option maxHeartbeats 4000000 in
set_option maxRecDepth 100000 in
theorem m3_lie (l : Launch) (G : kG) (u : CS) (Y : YS) (hL : layR G) (hI : Inv G u) (hY : InvY (gn G) u.1 Y) (x y t : Int32) : KMi l G (AR G) (wR G) yX3_lie cX3_lie 5 (Option.some FieldType.int) ({ frames := 2, cells := 0, slots := 0, locals := 46 }) [.ref (gL G 0), .int (x), .int (y), .int (t)] (u.1, Y) (fun zz rr => RP (gn G) (pLie (gn G) u x y t) zz rr) := by
  refine K_of (by decide) (Nat.le_of_ble_eq_true rfl) ?_
  intro p e s m below meth c X hr hlocks hnm hK hP ls hl
  have hx := X.1
  have hb := X.2.1
  have hown := X.2.2.2.1
  have hts := X.2.2.2.2
  have hS : va_S (AR G) s.heap s.heap [] := va_S.rf
  have hl : lv_has ls 5 [(0, .ref (gL G 0)), (1, .int (x)), (2, .int (y)), (3, .int (t))] := hl
  have hk : okR G (u.1, Y) := okR_of hI.1.1 Y
  obtain ⟨⟨kn4, kn10⟩, ⟨kT1, kT61⟩, kP40, kLd, kPar, kEp, kHt, kVf⟩ := id hk
  dsimp only at kT1 kT61 kP40 kLd kPar kEp kHt kVf
  refine lv_aload_n hx hb dX3_lie_0 rfl (lv_at hl 0 rfl) ?_
  refine lv_iconst (v := nI 0) hx hb dX3_lie_1 (by decide) ?_
  refine k_put (v := .int (nI 0)) X hK inX3 rfl tyX3_ok nmX3 hP (wR_D hL _) hS (wR_g G ((u.1, Y)) (k := 0) (by decide)) 0 (by decide) tw_2_135 rfl rfl rfl (Nat.le_of_ble_eq_true rfl) ((u.1, Y)) (rs_th G ((u.1, Y))) dX3_lie_2 (fun H locs hP hS => ?_)
  refine lv_aload_n hx hb dX3_lie_5 rfl (lv_at hl 0 rfl) ?_
  refine lv_iload_n hx hb dX3_lie_6 rfl (lv_at hl 1 rfl) ?_
  refine k_ci (k_runV (As := [.int (x)]) (rest := []) X hK hP (wR_g G ((u.1, Y)) (k := 0) (by decide)) rfl (m3_isNode l G ((u.1, Y)) hL (hk) x) ⟨rfl, rfl⟩ tw_2_229 tw_2_231 tw_0_27 tw_1_6 tw_2_232 ⟨by decide +kernel, by decide +kernel, (by decide +kernel : (parseMethodDescriptor yX3_isNode.desc).map (fun d => d.parameters.length) = some 1)⟩ ⟨Nat.le_of_ble_eq_true rfl, Nat.le_of_ble_eq_true rfl⟩ hl.1 rfl (Nat.le_of_ble_eq_true rfl) ⟨Nat.zero_le _, Nat.zero_le _⟩ dX3_lie_7) hS (fun r_7 u_7 H locs hq_7 hP hS => ?_)
  have hP := k_su hq_7.1 hP
  rcases hq_7.2 with ⟨j_7, hj_7, hx_7, hr_7⟩ | ⟨hz_7, hr_7⟩
  · subst hx_7
    subst hr_7
    replace hj_7 : j_7 < gn G := hj_7
    refine lv_if_eq (tgt := 37) hx hb dX3_lie_10 (by decide) (fun c_10 => ?_) (fun c_10 => ?_)
    · exact absurd c_10 (by decide)
    · refine lv_iload_n hx hb dX3_lie_13 rfl (lv_at hl 2 rfl) ?_
      refine lv_i2l (v := y.toInt64) hx hb dX3_lie_14 rfl ?_
      refine lv_lconst (v := 1) hx hb dX3_lie_15 rfl ?_
      refine lv_aload_n hx hb dX3_lie_16 rfl (lv_at hl 0 rfl) ?_
      refine k_get (v := .int (nI (mT u.1))) X hK inX3 rfl hP (wR_g G ((u.1, Y)) (k := 0) (by decide)) 6 (by decide) tw_2_141 rfl dX3_lie_17 ?_
      refine lv_iconst (v := nI 1) hx hb dX3_lie_20 (by decide) ?_
      refine lv_isub hx hb dX3_lie_21 ?_
      refine k_ti (pk_sub (by omega)) ?_
      refine lv_i2l (v := (nI (mT u.1 - 1)).toInt64) hx hb dX3_lie_22 rfl ?_
      refine k_ci (k_runS (As := [.long (y.toInt64), .long (1), .long ((nI (mT u.1 - 1)).toInt64)]) (rest := []) X hK hP (m3_in l G (AR G) (wR G) ((u.1, Y)) y.toInt64 1 ((nI (mT u.1 - 1)).toInt64)) ⟨rfl, rfl⟩ tw_2_226 tw_2_227 tw_1_6 tw_2_228 ⟨by decide +kernel, by decide +kernel, (by decide +kernel : (parseMethodDescriptor yX3_in.desc).map (fun d => d.parameters.length) = some 3)⟩ ⟨Nat.le_of_ble_eq_true rfl, Nat.le_of_ble_eq_true rfl⟩ hl.1 rfl (Nat.le_of_ble_eq_true rfl) ⟨Nat.zero_le _, Nat.zero_le _⟩ dX3_lie_23) hS (fun r_23 u_23 H locs hq_23 hP hS => ?_)
      have hP := k_su hq_23.2 hP
      have hq2_23 : r_23 = bI (decide (lN 1 ≤ y.toInt64) && decide (y.toInt64 ≤ lN (mT u.1 - 1))) := by
        rw [hq_23.1, show (nI (mT u.1 - 1)).toInt64 = lN (mT u.1 - 1) from (nI_l (by omega))]; rfl
      rcases in_cases y (a := 1) (k := (mT u.1 - 1)) (by decide) (by omega) with ⟨j_23, hj_23, hx_23, hr_23⟩ | ⟨hz_23, hr_23⟩
      · rw [hr_23] at hq2_23
        subst hx_23
        refine k_ti (y := 1) hq2_23 ?_
        refine lv_if_eq (tgt := 37) hx hb dX3_lie_26 (by decide) (fun c_26 => ?_) (fun c_26 => ?_)
        · exact absurd c_26 (by decide)
        · refine lv_aload_n hx hb dX3_lie_29 rfl (lv_at hl 0 rfl) ?_
          refine lv_iload_n hx hb dX3_lie_30 rfl (lv_at hl 3 rfl) ?_
          refine k_ci (k_runV (As := [.int (t)]) (rest := []) X hK hP (wR_g G ((u.1, Y)) (k := 0) (by decide)) rfl (m3_isTo l G ((u.1, Y)) hL (hk) t) ⟨rfl, rfl⟩ tw_3_61 tw_3_63 tw_0_36 tw_1_6 tw_3_64 ⟨by decide +kernel, by decide +kernel, (by decide +kernel : (parseMethodDescriptor yX3_isTo.desc).map (fun d => d.parameters.length) = some 1)⟩ ⟨Nat.le_of_ble_eq_true rfl, Nat.le_of_ble_eq_true rfl⟩ hl.1 rfl (Nat.le_of_ble_eq_true rfl) ⟨Nat.zero_le _, Nat.zero_le _⟩ dX3_lie_31) hS (fun r_31 u_31 H locs hq_31 hP hS => ?_)
          have hP := k_su hq_31.1 hP
          rcases hq_31.2 with ⟨hz_31, hr_31⟩ | ⟨hz_31, hr_31⟩
          · subst hr_31
            refine lv_if_ne (tgt := 40) hx hb dX3_lie_34 (by decide) (fun c_34 => ?_) (fun c_34 => ?_)
            · refine lv_aload_n hx hb dX3_lie_40 rfl (lv_at hl 0 rfl) ?_
              refine k_get (v := .ref (gL G 1)) X hK inX3 rfl hP (wR_g G ((u.1, Y)) (k := 0) (by decide)) 2 (by decide) tw_2_137 rfl dX3_lie_41 ?_
              refine lv_iload_n hx hb dX3_lie_44 rfl (lv_at hl 1 rfl) ?_
              refine k_zld (k := j_7) (v := bI (mFa u.1 j_7)) X hK hP (wR_g G ((u.1, Y)) (k := 1) (by decide)) (by omega) (by decide) rfl dX3_lie_45 ?_
              refine lv_if_ne (tgt := 52) hx hb dX3_lie_46 (by decide) (fun c_46 => ?_) (fun c_46 => ?_)
              · have c_46 : (mFa u.1 j_7) = true := (bI_ne0 _).mp c_46
                refine lv_iload_n hx hb dX3_lie_52 rfl (lv_at hl 2 rfl) ?_
                refine lv_iload_n hx hb dX3_lie_53 rfl (lv_at hl 1 rfl) ?_
                refine k_ci (k_runS (As := [.int (nI j_23), .int (nI j_7)]) (rest := []) X hK hP (m3_letter l G (AR G) (wR G) ((u.1, Y)) j_23 j_7) ⟨rfl, rfl⟩ tw_3_10 tw_3_11 tw_1_6 tw_3_12 ⟨by decide +kernel, by decide +kernel, (by decide +kernel : (parseMethodDescriptor yX3_letter.desc).map (fun d => d.parameters.length) = some 2)⟩ ⟨Nat.le_of_ble_eq_true rfl, Nat.le_of_ble_eq_true rfl⟩ hl.1 rfl (Nat.le_of_ble_eq_true rfl) ⟨Nat.zero_le _, Nat.zero_le _⟩ dX3_lie_54) hS (fun r_54 u_54 H locs hq_54 hP hS => ?_)
                have hP := k_su hq_54.2 hP
                refine k_ti hq_54.1 ?_
                refine lv_istore (lv' := [(4, .int (nI (11 * j_23 + 1 + j_7))), (0, .ref (gL G 0)), (1, .int (nI j_7)), (2, .int (nI j_23)), (3, .int (t))]) hx hb dX3_lie_57 hl (by decide) rfl (fun ls hl => ?_)
                refine lv_aload_n hx hb dX3_lie_59 rfl (lv_at hl 1 rfl) ?_
                refine k_get (v := .ref (gL G 9)) X hK inX3 rfl hP (wR_g G ((u.1, Y)) (k := 0) (by decide)) 12 (by decide) tw_2_147 rfl dX3_lie_60 ?_
                refine lv_bipush (v := nI 10) hx hb dX3_lie_63 (by decide) ?_
                refine lv_iload hx hb dX3_lie_65 (lv_at hl 0 rfl) ?_
                refine lv_imul hx hb dX3_lie_67 ?_
                refine k_ti (pk_mul 10 (11 * j_23 + 1 + j_7)) ?_
                refine lv_iload_n hx hb dX3_lie_68 rfl (lv_at hl 2 rfl) ?_
                refine lv_iadd hx hb dX3_lie_69 ?_
                refine k_ti (nI_add (10 * (11 * j_23 + 1 + j_7)) j_7) ?_
                refine k_zld (k := 10 * (11 * j_23 + 1 + j_7) + j_7) (v := bI (mHs u.1 (11 * j_23 + 1 + j_7) j_7)) X hK hP (wR_g G ((u.1, Y)) (k := 9) (by decide)) (by omega) (by decide) (f10_at _ (show j_7 < 10 by omega)) dX3_lie_70 ?_
                refine lv_if_ne (tgt := 81) hx hb dX3_lie_71 (by decide) (fun c_71 => ?_) (fun c_71 => ?_)
                · have c_71 : (mHs u.1 (11 * j_23 + 1 + j_7) j_7) = true := (bI_ne0 _).mp c_71
                  have hIt : Inv0 G (cTakeV (gn G) u j_7 j_7 j_23) := Inv0_takeV hI.1 hj_7 hj_7 (by omega) (by omega) (Or.inl rfl) (fun _ h => by rw [c_46] at h; cases h)
                  have hkt : okR G ((cTakeV (gn G) u j_7 j_7 j_23).1, Y) := okR_of hIt.1 _
                  have hP := k_su (show _ = ((cTakeV (gn G) u j_7 j_7 j_23).1, Y) by rw [lie_id hI.1 c_46 c_71]) hP
                  have hYt : InvY (gn G) (cTakeV (gn G) u j_7 j_7 j_23).1 Y := by rw [lie_id hI.1 c_46 c_71]; exact hY
                  refine lv_aload_n hx hb dX3_lie_81 rfl (lv_at hl 1 rfl) ?_
                  refine lv_iload hx hb dX3_lie_82 (lv_at hl 0 rfl) ?_
                  refine lv_iload_n hx hb dX3_lie_84 rfl (lv_at hl 4 rfl) ?_
                  refine k_ci (k_runV (As := [.int (nI (11 * j_23 + 1 + j_7)), .int (t)]) (rest := []) X hK hP (wR_g G (((cTakeV (gn G) u j_7 j_7 j_23).1, Y)) (k := 0) (by decide)) rfl (m3_send l G (((cTakeV (gn G) u j_7 j_7 j_23).1, Y)) hL (hkt) (l0 := (11 * j_23 + 1 + j_7)) (by omega) t) ⟨rfl, rfl⟩ tw_3_65 tw_3_67 tw_0_37 tw_1_6 tw_3_68 ⟨by decide +kernel, by decide +kernel, (by decide +kernel : (parseMethodDescriptor yX3_send.desc).map (fun d => d.parameters.length) = some 2)⟩ ⟨Nat.le_of_ble_eq_true rfl, Nat.le_of_ble_eq_true rfl⟩ hl.1 rfl (Nat.le_of_ble_eq_true rfl) ⟨Nat.zero_le _, Nat.zero_le _⟩ dX3_lie_85) hS (fun r_85 u_85 H locs hq_85 hP hS => ?_)
                  have hP := k_su hq_85.2 hP
                  refine k_ti hq_85.1 ?_
                  exact k_reti X hr hlocks hP hS dX3_lie_88 (rp (w := (sndM (cTakeV (gn G) u j_7 j_7 j_23).1 (11 * j_23 + 1 + j_7) t (gn G), (cTakeV (gn G) u j_7 j_7 j_23).2)) (by simp only [pLie, ix_some hj_7 (show gn G < 2 ^ 31 by omega), if_neg (show ¬ nI j_23 = 0 from fun h => absurd (czEq h (by omega) (by decide)) (by omega)), ix_some (show j_23 < mT u.1 by omega) (show mT u.1 < 2 ^ 31 by omega), if_pos hz_31]; rw [if_neg (by rw [c_46]; decide)]) (InvY_snd hYt _ _ _))
                · have c_71 : (mHs u.1 (11 * j_23 + 1 + j_7) j_7) = false := (bI_eq0 _).mp c_71
                  refine lv_aload_n hx hb dX3_lie_74 rfl (lv_at hl 1 rfl) ?_
                  refine lv_iload_n hx hb dX3_lie_75 rfl (lv_at hl 2 rfl) ?_
                  refine lv_iload hx hb dX3_lie_76 (lv_at hl 0 rfl) ?_
                  refine k_cv (k_runV (As := [.int (nI j_7), .int (nI (11 * j_23 + 1 + j_7))]) (rest := []) X hK hP (wR_g G ((u.1, Y)) (k := 0) (by decide)) rfl (m3_gain l G ((u.1, Y)) hL (hk) (v := j_7) (l0 := (11 * j_23 + 1 + j_7)) (by omega) (by omega)) ⟨rfl, rfl⟩ tw_3_21 tw_3_23 tw_0_31 tw_1_6 tw_3_24 ⟨by decide +kernel, by decide +kernel, (by decide +kernel : (parseMethodDescriptor yX3_gain.desc).map (fun d => d.parameters.length) = some 2)⟩ ⟨Nat.le_of_ble_eq_true rfl, Nat.le_of_ble_eq_true rfl⟩ hl.1 rfl (Nat.le_of_ble_eq_true rfl) ⟨Nat.zero_le _, Nat.zero_le _⟩ dX3_lie_78) hS (fun u_78 H locs hq_78 hP hS => ?_)
                  have hP := k_su hq_78 hP
                  have hIt : Inv0 G (cTakeV (gn G) u j_7 j_7 j_23) := Inv0_takeV hI.1 hj_7 hj_7 (by omega) (by omega) (Or.inl rfl) (fun _ h => by rw [c_46] at h; cases h)
                  have hkt : okR G ((cTakeV (gn G) u j_7 j_7 j_23).1, Y) := okR_of hIt.1 _
                  have hP := k_su (show _ = ((cTakeV (gn G) u j_7 j_7 j_23).1, gnY Y (11 * j_23 + 1 + j_7) j_7) by rw [takeV_gn kn10 hI.1.2.2.1]) hP
                  have hYt : InvY (gn G) (cTakeV (gn G) u j_7 j_7 j_23).1 (gnY Y (11 * j_23 + 1 + j_7) j_7) := InvY_takeV hY (by omega)
                  refine lv_aload_n hx hb dX3_lie_81 rfl (lv_at hl 1 rfl) ?_
                  refine lv_iload hx hb dX3_lie_82 (lv_at hl 0 rfl) ?_
                  refine lv_iload_n hx hb dX3_lie_84 rfl (lv_at hl 4 rfl) ?_
                  refine k_ci (k_runV (As := [.int (nI (11 * j_23 + 1 + j_7)), .int (t)]) (rest := []) X hK hP (wR_g G (((cTakeV (gn G) u j_7 j_7 j_23).1, gnY Y (11 * j_23 + 1 + j_7) j_7)) (k := 0) (by decide)) rfl (m3_send l G (((cTakeV (gn G) u j_7 j_7 j_23).1, gnY Y (11 * j_23 + 1 + j_7) j_7)) hL (hkt) (l0 := (11 * j_23 + 1 + j_7)) (by omega) t) ⟨rfl, rfl⟩ tw_3_65 tw_3_67 tw_0_37 tw_1_6 tw_3_68 ⟨by decide +kernel, by decide +kernel, (by decide +kernel : (parseMethodDescriptor yX3_send.desc).map (fun d => d.parameters.length) = some 2)⟩ ⟨Nat.le_of_ble_eq_true rfl, Nat.le_of_ble_eq_true rfl⟩ hl.1 rfl (Nat.le_of_ble_eq_true rfl) ⟨Nat.zero_le _, Nat.zero_le _⟩ dX3_lie_85) hS (fun r_85 u_85 H locs hq_85 hP hS => ?_)
                  have hP := k_su hq_85.2 hP
                  refine k_ti hq_85.1 ?_
                  exact k_reti X hr hlocks hP hS dX3_lie_88 (rp (w := (sndM (cTakeV (gn G) u j_7 j_7 j_23).1 (11 * j_23 + 1 + j_7) t (gn G), (cTakeV (gn G) u j_7 j_7 j_23).2)) (by simp only [pLie, ix_some hj_7 (show gn G < 2 ^ 31 by omega), if_neg (show ¬ nI j_23 = 0 from fun h => absurd (czEq h (by omega) (by decide)) (by omega)), ix_some (show j_23 < mT u.1 by omega) (show mT u.1 < 2 ^ 31 by omega), if_pos hz_31]; rw [if_neg (by rw [c_46]; decide)]) (InvY_snd hYt _ _ _))
              · have c_46 : (mFa u.1 j_7) = false := (bI_eq0 _).mp c_46
                refine lv_bipush (v := -3) hx hb dX3_lie_49 (by decide) ?_
                exact k_reti X hr hlocks hP hS dX3_lie_51 (rp (w := u) (by simp only [pLie, ix_some hj_7 (show gn G < 2 ^ 31 by omega), if_neg (show ¬ nI j_23 = 0 from fun h => absurd (czEq h (by omega) (by decide)) (by omega)), ix_some (show j_23 < mT u.1 by omega) (show mT u.1 < 2 ^ 31 by omega), if_pos hz_31]; rw [if_pos (by rw [c_46]; rfl)]) (hY))
            · exact absurd c_34 (by decide)
          · subst hr_31
            refine lv_if_ne (tgt := 40) hx hb dX3_lie_34 (by decide) (fun c_34 => ?_) (fun c_34 => ?_)
            · exact absurd rfl c_34
            · refine lv_bipush (v := -2) hx hb dX3_lie_37 (by decide) ?_
              exact k_reti X hr hlocks hP hS dX3_lie_39 (rp (w := u) (by simp only [pLie, ix_some hj_7 (show gn G < 2 ^ 31 by omega), if_neg (show ¬ nI j_23 = 0 from fun h => absurd (czEq h (by omega) (by decide)) (by omega)), ix_some (show j_23 < mT u.1 by omega) (show mT u.1 < 2 ^ 31 by omega), if_neg hz_31] <;> (first | done | rfl | (split <;> first | rfl | (split <;> first | rfl | (split <;> rfl))))) (hY))
      · rw [hr_23] at hq2_23
        refine k_ti (y := 0) hq2_23 ?_
        refine lv_if_eq (tgt := 37) hx hb dX3_lie_26 (by decide) (fun c_26 => ?_) (fun c_26 => ?_)
        · refine lv_bipush (v := -2) hx hb dX3_lie_37 (by decide) ?_
          exact k_reti X hr hlocks hP hS dX3_lie_39 (rp (w := u) (by simp only [pLie, ix_some hj_7 (show gn G < 2 ^ 31 by omega)]; exact (in1_none hz_23 (by omega)).elim (fun hq => by rw [if_pos hq]) (fun hq => by rw [hq]; split <;> rfl)) hY)
        · exact absurd rfl c_26
  · subst hr_7
    refine lv_if_eq (tgt := 37) hx hb dX3_lie_10 (by decide) (fun c_10 => ?_) (fun c_10 => ?_)
    · refine lv_bipush (v := -2) hx hb dX3_lie_37 (by decide) ?_
      exact k_reti X hr hlocks hP hS dX3_lie_39 (rp (w := u) (by simp only [pLie, ix_none hz_7 (show gn G < 2 ^ 31 by omega)] <;> (first | done | rfl | (split <;> first | rfl | (split <;> first | rfl | (split <;> rfl))))) (hY))
    · exact absurd rfl c_10

set_option maxHeartbeats 4000000 in
set_option maxRecDepth 100000 in
theorem m3_pass (l : Launch) (G : kG) (u : CS) (Y : YS) (hL : layR G) (hI : Inv G u) (hY : InvY (gn G) u.1 Y) (x y t : Int32) : KMi l G (AR G) (wR G) yX3_pass cX3_pass 5 (Option.some FieldType.int) ({ frames := 2, cells := 0, slots := 0, locals := 46 }) [.ref (gL G 0), .int (x), .int (y), .int (t)] (u.1, Y) (fun zz rr => RP (gn G) (pPass (gn G) u x y t) zz rr) := by
  refine K_of (by decide) (Nat.le_of_ble_eq_true rfl) ?_
  intro p e s m below meth c X hr hlocks hnm hK hP ls hl
  have hx := X.1
  have hb := X.2.1
  have hown := X.2.2.2.1
  have hts := X.2.2.2.2
  have hS : va_S (AR G) s.heap s.heap [] := va_S.rf
  have hl : lv_has ls 5 [(0, .ref (gL G 0)), (1, .int (x)), (2, .int (y)), (3, .int (t))] := hl
  have hk : okR G (u.1, Y) := okR_of hI.1.1 Y
  obtain ⟨⟨kn4, kn10⟩, ⟨kT1, kT61⟩, kP40, kLd, kPar, kEp, kHt, kVf⟩ := id hk
  dsimp only at kT1 kT61 kP40 kLd kPar kEp kHt kVf
  refine lv_aload_n hx hb dX3_pass_0 rfl (lv_at hl 0 rfl) ?_
  refine lv_iconst (v := nI 0) hx hb dX3_pass_1 (by decide) ?_
  refine k_put (v := .int (nI 0)) X hK inX3 rfl tyX3_ok nmX3 hP (wR_D hL _) hS (wR_g G ((u.1, Y)) (k := 0) (by decide)) 0 (by decide) tw_2_135 rfl rfl rfl (Nat.le_of_ble_eq_true rfl) ((u.1, Y)) (rs_th G ((u.1, Y))) dX3_pass_2 (fun H locs hP hS => ?_)
  refine lv_aload_n hx hb dX3_pass_5 rfl (lv_at hl 0 rfl) ?_
  refine lv_iload_n hx hb dX3_pass_6 rfl (lv_at hl 1 rfl) ?_
  refine k_ci (k_runV (As := [.int (x)]) (rest := []) X hK hP (wR_g G ((u.1, Y)) (k := 0) (by decide)) rfl (m3_isNode l G ((u.1, Y)) hL (hk) x) ⟨rfl, rfl⟩ tw_2_229 tw_2_231 tw_0_27 tw_1_6 tw_2_232 ⟨by decide +kernel, by decide +kernel, (by decide +kernel : (parseMethodDescriptor yX3_isNode.desc).map (fun d => d.parameters.length) = some 1)⟩ ⟨Nat.le_of_ble_eq_true rfl, Nat.le_of_ble_eq_true rfl⟩ hl.1 rfl (Nat.le_of_ble_eq_true rfl) ⟨Nat.zero_le _, Nat.zero_le _⟩ dX3_pass_7) hS (fun r_7 u_7 H locs hq_7 hP hS => ?_)
  have hP := k_su hq_7.1 hP
  rcases hq_7.2 with ⟨j_7, hj_7, hx_7, hr_7⟩ | ⟨hz_7, hr_7⟩
  · subst hx_7
    subst hr_7
    replace hj_7 : j_7 < gn G := hj_7
    refine lv_if_eq (tgt := 37) hx hb dX3_pass_10 (by decide) (fun c_10 => ?_) (fun c_10 => ?_)
    · exact absurd c_10 (by decide)
    · refine lv_iload_n hx hb dX3_pass_13 rfl (lv_at hl 2 rfl) ?_
      refine lv_i2l (v := y.toInt64) hx hb dX3_pass_14 rfl ?_
      refine lv_lconst (v := 1) hx hb dX3_pass_15 rfl ?_
      refine lv_aload_n hx hb dX3_pass_16 rfl (lv_at hl 0 rfl) ?_
      refine k_get (v := .int (nI (mT u.1))) X hK inX3 rfl hP (wR_g G ((u.1, Y)) (k := 0) (by decide)) 6 (by decide) tw_2_141 rfl dX3_pass_17 ?_
      refine lv_iconst (v := nI 1) hx hb dX3_pass_20 (by decide) ?_
      refine lv_isub hx hb dX3_pass_21 ?_
      refine k_ti (pk_sub (by omega)) ?_
      refine lv_i2l (v := (nI (mT u.1 - 1)).toInt64) hx hb dX3_pass_22 rfl ?_
      refine k_ci (k_runS (As := [.long (y.toInt64), .long (1), .long ((nI (mT u.1 - 1)).toInt64)]) (rest := []) X hK hP (m3_in l G (AR G) (wR G) ((u.1, Y)) y.toInt64 1 ((nI (mT u.1 - 1)).toInt64)) ⟨rfl, rfl⟩ tw_2_226 tw_2_227 tw_1_6 tw_2_228 ⟨by decide +kernel, by decide +kernel, (by decide +kernel : (parseMethodDescriptor yX3_in.desc).map (fun d => d.parameters.length) = some 3)⟩ ⟨Nat.le_of_ble_eq_true rfl, Nat.le_of_ble_eq_true rfl⟩ hl.1 rfl (Nat.le_of_ble_eq_true rfl) ⟨Nat.zero_le _, Nat.zero_le _⟩ dX3_pass_23) hS (fun r_23 u_23 H locs hq_23 hP hS => ?_)
      have hP := k_su hq_23.2 hP
      have hq2_23 : r_23 = bI (decide (lN 1 ≤ y.toInt64) && decide (y.toInt64 ≤ lN (mT u.1 - 1))) := by
        rw [hq_23.1, show (nI (mT u.1 - 1)).toInt64 = lN (mT u.1 - 1) from (nI_l (by omega))]; rfl
      rcases in_cases y (a := 1) (k := (mT u.1 - 1)) (by decide) (by omega) with ⟨j_23, hj_23, hx_23, hr_23⟩ | ⟨hz_23, hr_23⟩
      · rw [hr_23] at hq2_23
        subst hx_23
        refine k_ti (y := 1) hq2_23 ?_
        refine lv_if_eq (tgt := 37) hx hb dX3_pass_26 (by decide) (fun c_26 => ?_) (fun c_26 => ?_)
        · exact absurd c_26 (by decide)
        · refine lv_aload_n hx hb dX3_pass_29 rfl (lv_at hl 0 rfl) ?_
          refine lv_iload_n hx hb dX3_pass_30 rfl (lv_at hl 3 rfl) ?_
          refine k_ci (k_runV (As := [.int (t)]) (rest := []) X hK hP (wR_g G ((u.1, Y)) (k := 0) (by decide)) rfl (m3_isTo l G ((u.1, Y)) hL (hk) t) ⟨rfl, rfl⟩ tw_3_61 tw_3_63 tw_0_36 tw_1_6 tw_3_64 ⟨by decide +kernel, by decide +kernel, (by decide +kernel : (parseMethodDescriptor yX3_isTo.desc).map (fun d => d.parameters.length) = some 1)⟩ ⟨Nat.le_of_ble_eq_true rfl, Nat.le_of_ble_eq_true rfl⟩ hl.1 rfl (Nat.le_of_ble_eq_true rfl) ⟨Nat.zero_le _, Nat.zero_le _⟩ dX3_pass_31) hS (fun r_31 u_31 H locs hq_31 hP hS => ?_)
          have hP := k_su hq_31.1 hP
          rcases hq_31.2 with ⟨hz_31, hr_31⟩ | ⟨hz_31, hr_31⟩
          · subst hr_31
            refine lv_if_ne (tgt := 40) hx hb dX3_pass_34 (by decide) (fun c_34 => ?_) (fun c_34 => ?_)
            · refine lv_iload_n hx hb dX3_pass_40 rfl (lv_at hl 2 rfl) ?_
              refine lv_iconst (v := -1) hx hb dX3_pass_41 (by decide) ?_
              refine k_ci (k_runS (As := [.int (nI j_23), .int (-1)]) (rest := []) X hK hP (m3_letterN l G (AR G) (wR G) ((u.1, Y)) j_23) ⟨rfl, rfl⟩ tw_3_10 tw_3_11 tw_1_6 tw_3_12 ⟨by decide +kernel, by decide +kernel, (by decide +kernel : (parseMethodDescriptor yX3_letter.desc).map (fun d => d.parameters.length) = some 2)⟩ ⟨Nat.le_of_ble_eq_true rfl, Nat.le_of_ble_eq_true rfl⟩ hl.1 rfl (Nat.le_of_ble_eq_true rfl) ⟨Nat.zero_le _, Nat.zero_le _⟩ dX3_pass_42) hS (fun r_42 u_42 H locs hq_42 hP hS => ?_)
              have hP := k_su hq_42.2 hP
              refine k_ti hq_42.1 ?_
              refine lv_istore (lv' := [(4, .int (nI (11 * j_23))), (0, .ref (gL G 0)), (1, .int (nI j_7)), (2, .int (nI j_23)), (3, .int (t))]) hx hb dX3_pass_45 hl (by decide) rfl (fun ls hl => ?_)
              refine lv_aload_n hx hb dX3_pass_47 rfl (lv_at hl 1 rfl) ?_
              refine k_get (v := .ref (gL G 1)) X hK inX3 rfl hP (wR_g G ((u.1, Y)) (k := 0) (by decide)) 2 (by decide) tw_2_137 rfl dX3_pass_48 ?_
              refine lv_iload_n hx hb dX3_pass_51 rfl (lv_at hl 2 rfl) ?_
              refine k_zld (k := j_7) (v := bI (mFa u.1 j_7)) X hK hP (wR_g G ((u.1, Y)) (k := 1) (by decide)) (by omega) (by decide) rfl dX3_pass_52 ?_
              refine lv_if_eq (tgt := 71) hx hb dX3_pass_53 (by decide) (fun c_53 => ?_) (fun c_53 => ?_)
              · have c_53 : (mFa u.1 j_7) = false := (bI_eq0 _).mp c_53
                refine lv_bipush (v := -3) hx hb dX3_pass_71 (by decide) ?_
                refine lv_goto (tgt := 83) hx hb dX3_pass_73 (by decide) ?_
                exact k_reti X hr hlocks hP hS dX3_pass_83 (rp (w := u) (by simp only [pPass, ix_some hj_7 (show gn G < 2 ^ 31 by omega), if_neg (show ¬ nI j_23 = 0 from fun h => absurd (czEq h (by omega) (by decide)) (by omega)), ix_some (show j_23 < mT u.1 by omega) (show mT u.1 < 2 ^ 31 by omega), if_pos hz_31]; rw [if_pos (by first | (simp [c_53]; done) | (simp [c_68]; done))]) (hY))
              · have c_53 : (mFa u.1 j_7) = true := (bI_ne0 _).mp c_53
                refine lv_aload_n hx hb dX3_pass_56 rfl (lv_at hl 1 rfl) ?_
                refine k_get (v := .ref (gL G 9)) X hK inX3 rfl hP (wR_g G ((u.1, Y)) (k := 0) (by decide)) 12 (by decide) tw_2_147 rfl dX3_pass_57 ?_
                refine lv_bipush (v := nI 10) hx hb dX3_pass_60 (by decide) ?_
                refine lv_iload hx hb dX3_pass_62 (lv_at hl 0 rfl) ?_
                refine lv_imul hx hb dX3_pass_64 ?_
                refine k_ti (pk_mul 10 (11 * j_23)) ?_
                refine lv_iload_n hx hb dX3_pass_65 rfl (lv_at hl 2 rfl) ?_
                refine lv_iadd hx hb dX3_pass_66 ?_
                refine k_ti (nI_add (10 * (11 * j_23)) j_7) ?_
                refine k_zld (k := 10 * (11 * j_23) + j_7) (v := bI (mHs u.1 (11 * j_23) j_7)) X hK hP (wR_g G ((u.1, Y)) (k := 9) (by decide)) (by omega) (by decide) (f10_at _ (show j_7 < 10 by omega)) dX3_pass_67 ?_
                refine lv_if_ne (tgt := 76) hx hb dX3_pass_68 (by decide) (fun c_68 => ?_) (fun c_68 => ?_)
                · have c_68 : (mHs u.1 (11 * j_23) j_7) = true := (bI_ne0 _).mp c_68
                  refine lv_aload_n hx hb dX3_pass_76 rfl (lv_at hl 1 rfl) ?_
                  refine lv_iload hx hb dX3_pass_77 (lv_at hl 0 rfl) ?_
                  refine lv_iload_n hx hb dX3_pass_79 rfl (lv_at hl 4 rfl) ?_
                  refine k_ci (k_runV (As := [.int (nI (11 * j_23)), .int (t)]) (rest := []) X hK hP (wR_g G ((u.1, Y)) (k := 0) (by decide)) rfl (m3_send l G ((u.1, Y)) hL (hk) (l0 := (11 * j_23)) (by omega) t) ⟨rfl, rfl⟩ tw_3_65 tw_3_67 tw_0_37 tw_1_6 tw_3_68 ⟨by decide +kernel, by decide +kernel, (by decide +kernel : (parseMethodDescriptor yX3_send.desc).map (fun d => d.parameters.length) = some 2)⟩ ⟨Nat.le_of_ble_eq_true rfl, Nat.le_of_ble_eq_true rfl⟩ hl.1 rfl (Nat.le_of_ble_eq_true rfl) ⟨Nat.zero_le _, Nat.zero_le _⟩ dX3_pass_80) hS (fun r_80 u_80 H locs hq_80 hP hS => ?_)
                  have hP := k_su hq_80.2 hP
                  refine k_ti hq_80.1 ?_
                  exact k_reti X hr hlocks hP hS dX3_pass_83 (rp (w := (sndM u.1 (11 * j_23) t (gn G), u.2)) (by simp only [pPass, ix_some hj_7 (show gn G < 2 ^ 31 by omega), if_neg (show ¬ nI j_23 = 0 from fun h => absurd (czEq h (by omega) (by decide)) (by omega)), ix_some (show j_23 < mT u.1 by omega) (show mT u.1 < 2 ^ 31 by omega), if_pos hz_31]; rw [if_neg (by simp [c_53, c_68])]) (InvY_snd hY _ _ _))
                · have c_68 : (mHs u.1 (11 * j_23) j_7) = false := (bI_eq0 _).mp c_68
                  refine lv_bipush (v := -3) hx hb dX3_pass_71 (by decide) ?_
                  refine lv_goto (tgt := 83) hx hb dX3_pass_73 (by decide) ?_
                  exact k_reti X hr hlocks hP hS dX3_pass_83 (rp (w := u) (by simp only [pPass, ix_some hj_7 (show gn G < 2 ^ 31 by omega), if_neg (show ¬ nI j_23 = 0 from fun h => absurd (czEq h (by omega) (by decide)) (by omega)), ix_some (show j_23 < mT u.1 by omega) (show mT u.1 < 2 ^ 31 by omega), if_pos hz_31]; rw [if_pos (by first | (simp [c_53]; done) | (simp [c_68]; done))]) (hY))
            · exact absurd c_34 (by decide)
          · subst hr_31
            refine lv_if_ne (tgt := 40) hx hb dX3_pass_34 (by decide) (fun c_34 => ?_) (fun c_34 => ?_)
            · exact absurd rfl c_34
            · refine lv_bipush (v := -2) hx hb dX3_pass_37 (by decide) ?_
              exact k_reti X hr hlocks hP hS dX3_pass_39 (rp (w := u) (by simp only [pPass, ix_some hj_7 (show gn G < 2 ^ 31 by omega), if_neg (show ¬ nI j_23 = 0 from fun h => absurd (czEq h (by omega) (by decide)) (by omega)), ix_some (show j_23 < mT u.1 by omega) (show mT u.1 < 2 ^ 31 by omega), if_neg hz_31] <;> (first | done | rfl | (split <;> first | rfl | (split <;> first | rfl | (split <;> rfl))))) (hY))
      · rw [hr_23] at hq2_23
        refine k_ti (y := 0) hq2_23 ?_
        refine lv_if_eq (tgt := 37) hx hb dX3_pass_26 (by decide) (fun c_26 => ?_) (fun c_26 => ?_)
        · refine lv_bipush (v := -2) hx hb dX3_pass_37 (by decide) ?_
          exact k_reti X hr hlocks hP hS dX3_pass_39 (rp (w := u) (by simp only [pPass, ix_some hj_7 (show gn G < 2 ^ 31 by omega)]; exact (in1_none hz_23 (by omega)).elim (fun hq => by rw [if_pos hq]) (fun hq => by rw [hq]; split <;> rfl)) hY)
        · exact absurd rfl c_26
  · subst hr_7
    refine lv_if_eq (tgt := 37) hx hb dX3_pass_10 (by decide) (fun c_10 => ?_) (fun c_10 => ?_)
    · refine lv_bipush (v := -2) hx hb dX3_pass_37 (by decide) ?_
      exact k_reti X hr hlocks hP hS dX3_pass_39 (rp (w := u) (by simp only [pPass, ix_none hz_7 (show gn G < 2 ^ 31 by omega)] <;> (first | done | rfl | (split <;> first | rfl | (split <;> first | rfl | (split <;> rfl))))) (hY))
    · exact absurd rfl c_10

set_option maxHeartbeats 4000000 in
set_option maxRecDepth 100000 in
theorem m3_epoch (l : Launch) (G : kG) (u : CS) (Y : YS) (hL : layR G) (hI : Inv G u) (hY : InvY (gn G) u.1 Y) : KMi l G (AR G) (wR G) yX3_epoch cX3_epoch 4 (Option.some FieldType.int) ({ frames := 4, cells := 0, slots := 0, locals := 93 }) [.ref (gL G 0)] (u.1, Y) (fun zz rr => RP (gn G) (pEpoch (gn G) u) zz rr) := by
  refine K_of (by decide) (Nat.le_of_ble_eq_true rfl) ?_
  intro p e s m below meth c X hr hlocks hnm hK hP ls hl
  have hx := X.1
  have hb := X.2.1
  have hown := X.2.2.2.1
  have hts := X.2.2.2.2
  have hS : va_S (AR G) s.heap s.heap [] := va_S.rf
  have hl : lv_has ls 4 [(0, .ref (gL G 0))] := hl
  have hk : okR G (u.1, Y) := okR_of hI.1.1 Y
  obtain ⟨⟨kn4, kn10⟩, ⟨kT1, kT61⟩, kP40, kLd, kPar, kEp, kHt, kVf⟩ := id hk
  dsimp only at kT1 kT61 kP40 kLd kPar kEp kHt kVf
  have join_137 : ∀ (v : Nat) (Y1 : YS) (hP40 : mP u.1 < 40) (hv : mLd u.1 (mP u.1 + 1) = v) (hvn : v < gn G) (hroom : mFa u.1 v = true ∨ mT u.1 ≤ 60) (hYb : InvY (gn G) (cBegin (gn G) u v).1 Y1) (H : Heap) (locs : List Loc) (ls : Array Slot), va_P (gD G) vwCl ((wR G) (((cBegin (gn G) u v).1, Y1))) H → va_S (AR G) s.heap H locs → lv_has ls 4 [(0, .ref (gL G 0))] → W p l e ({ frames := 4, cells := 0, slots := 0, locals := 93 } : Room) s m ([.ref (gL G 0)] : List Value).toArray below meth c H locs 0 0 (MQ below (va_Qi (fun zz rr => RP (gn G) (pEpoch (gn G) u) zz rr) (KB G (wR G)) (AR G)) ([.ref (gL G 0)] : List Value).toArray s 0 0 (AR G)) (F0 m 137 ls []) := by
    intro v Y1 hP40 hv hvn hroom hYb H locs ls hP hS hl
    have hIb : Inv G (cBegin (gn G) u v) := Inv_begin hI hvn hP40 hroom
    refine lv_iconst (v := nI 0) hx hb dX3_epoch_137 (by decide) ?_
    refine lv_istore_n (lv' := [(2, .int (nI 0)), (0, .ref (gL G 0))]) hx hb dX3_epoch_138 rfl hl (by decide) rfl (fun ls hl => ?_)
    have loop_139 : ∀ (d_139 : Nat) (i : Nat) (Y2 : YS), gn G - i = d_139 → (i ≤ gn G) → (InvY (gn G) (lkAll (gn G) (cBegin (gn G) u v) i).1 Y2) → ∀ (H : Heap) (locs : List Loc) (ls : Array Slot), va_P (gD G) vwCl ((wR G) (((lkAll (gn G) (cBegin (gn G) u v) i).1, Y2))) H → va_S (AR G) s.heap H locs → lv_has ls 4 [(0, .ref (gL G 0)), (2, .int (nI i))] → W p l e ({ frames := 4, cells := 0, slots := 0, locals := 93 } : Room) s m ([.ref (gL G 0)] : List Value).toArray below meth c H locs 0 0 (MQ below (va_Qi (fun zz rr => RP (gn G) (pEpoch (gn G) u) zz rr) (KB G (wR G)) (AR G)) ([.ref (gL G 0)] : List Value).toArray s 0 0 (AR G)) (F0 m 139 ls []) := by
      intro d_139
      induction d_139 using Nat.strongRecOn with
      | ind d_139 ih_139 =>
        intro i Y2 hd_139 hi hY2 H locs ls hP hS hl
        refine lv_iload_n hx hb dX3_epoch_139 rfl (lv_at hl 1 rfl) ?_
        refine lv_aload_n hx hb dX3_epoch_140 rfl (lv_at hl 0 rfl) ?_
        refine k_get (v := .int (nI (gn G))) X hK inX3 rfl hP (wR_g G (((lkAll (gn G) (cBegin (gn G) u v) i).1, Y2)) (k := 0) (by decide)) 1 (by decide) tw_2_136 rfl dX3_epoch_141 ?_
        refine lv_icmp_ge (tgt := 158) hx hb dX3_epoch_144 (by decide) (fun c_144 => ?_) (fun c_144 => ?_)
        · have c_144 : (gn G) ≤ i := cLe c_144 (by omega) (by omega)
          refine lv_aload_n hx hb dX3_epoch_158 rfl (lv_at hl 0 rfl) ?_
          refine k_get (v := .int (nI (mP ((lkAll (gn G) (cBegin (gn G) u v) i).1)))) X hK inX3 rfl hP (wR_g G (((lkAll (gn G) (cBegin (gn G) u v) i).1, Y2)) (k := 0) (by decide)) 5 (by decide) tw_2_140 rfl dX3_epoch_159 ?_
          refine k_ti (congrArg nI (show mP (lkAll (gn G) (cBegin (gn G) u v) i).1 = mP u.1 + 1 by rw [stat_P (st_lkAll _ _ _), P_begin])) ?_
          exact k_reti X hr hlocks hP hS dX3_epoch_162 (rp (w := lkAll (gn G) (cBegin (gn G) u v) i) (by rw [pEpoch, if_neg (by omega), hv, if_neg (by rcases hroom with h | h <;> simp [h]), show i = gn G by omega]) hY2)
        · have c_144 : i < (gn G) := cNle c_144 (by omega) (by omega)
          refine lv_aload_n hx hb dX3_epoch_147 rfl (lv_at hl 0 rfl) ?_
          refine lv_iload_n hx hb dX3_epoch_148 rfl (lv_at hl 1 rfl) ?_
          refine k_cv (k_runV (As := [.int (nI i)]) (rest := []) X hK hP (wR_g G (((lkAll (gn G) (cBegin (gn G) u v) i).1, Y2)) (k := 0) (by decide)) rfl (m3_look l G (lkAll (gn G) (cBegin (gn G) u v) i) Y2 hL (Inv_lkAll hIb i (by omega)).1 hY2 (v := i) (by omega)) ⟨rfl, rfl⟩ tw_3_25 tw_3_27 tw_0_32 tw_1_6 tw_3_28 ⟨by decide +kernel, by decide +kernel, (by decide +kernel : (parseMethodDescriptor yX3_look.desc).map (fun d => d.parameters.length) = some 1)⟩ ⟨Nat.le_of_ble_eq_true rfl, Nat.le_of_ble_eq_true rfl⟩ hl.1 rfl (Nat.le_of_ble_eq_true rfl) ⟨Nat.zero_le _, Nat.zero_le _⟩ dX3_epoch_149) hS (fun u_149 H locs hq_149 hP hS => ?_)
          obtain ⟨M_149, Y_149⟩ := u_149
          obtain ⟨hM_149, hY_149, hT_149⟩ := hq_149
          dsimp only at hM_149 hY_149 hT_149
          subst hM_149
          refine lv_iinc (v := nI (i + 1)) (lv' := [(2, .int (nI (i + 1))), (0, .ref (gL G 0))]) hx hb dX3_epoch_152 hl (k := 1) rfl (nI_add i 1) (by decide) rfl (fun ls hl => ?_)
          refine lv_goto (tgt := 139) hx hb dX3_epoch_155 (by decide) ?_
          exact ih_139 (gn G - (i + 1)) (by omega) (i + 1) Y_149 rfl (by omega) (hY_149) _ _ _ hP hS (lv_sub hl [1, 0] rfl)
    exact loop_139 _ 0 Y1 rfl (Nat.zero_le _) (hYb) _ _ _ hP hS (lv_sub hl [1, 0] rfl)
  refine lv_aload_n hx hb dX3_epoch_0 rfl (lv_at hl 0 rfl) ?_
  refine lv_iconst (v := nI 0) hx hb dX3_epoch_1 (by decide) ?_
  refine k_put (v := .int (nI 0)) X hK inX3 rfl tyX3_ok nmX3 hP (wR_D hL _) hS (wR_g G ((u.1, Y)) (k := 0) (by decide)) 0 (by decide) tw_2_135 rfl rfl rfl (Nat.le_of_ble_eq_true rfl) ((u.1, Y)) (rs_th G ((u.1, Y))) dX3_epoch_2 (fun H locs hP hS => ?_)
  refine lv_aload_n hx hb dX3_epoch_5 rfl (lv_at hl 0 rfl) ?_
  refine k_get (v := .int (nI (mP u.1))) X hK inX3 rfl hP (wR_g G ((u.1, Y)) (k := 0) (by decide)) 5 (by decide) tw_2_140 rfl dX3_epoch_6 ?_
  refine lv_bipush (v := nI 40) hx hb dX3_epoch_9 (by decide) ?_
  refine lv_icmp_ne (tgt := 17) hx hb dX3_epoch_11 (by decide) (fun c_11 => ?_) (fun c_11 => ?_)
  · have c_11 : (mP u.1) ≠ 40 := cNe c_11 (by omega) (by omega)
    have hP40 : mP u.1 < 40 := by omega
    refine lv_aload_n hx hb dX3_epoch_17 rfl (lv_at hl 0 rfl) ?_
    refine k_get (v := .ref (gL G 3)) X hK inX3 rfl hP (wR_g G ((u.1, Y)) (k := 0) (by decide)) 4 (by decide) tw_2_139 rfl dX3_epoch_18 ?_
    refine lv_aload_n hx hb dX3_epoch_21 rfl (lv_at hl 0 rfl) ?_
    refine k_get (v := .int (nI (mP u.1))) X hK inX3 rfl hP (wR_g G ((u.1, Y)) (k := 0) (by decide)) 5 (by decide) tw_2_140 rfl dX3_epoch_22 ?_
    refine lv_iconst (v := nI 1) hx hb dX3_epoch_25 (by decide) ?_
    refine lv_iadd hx hb dX3_epoch_26 ?_
    refine k_ti (nI_add (mP u.1) 1) ?_
    refine k_ild (k := ((mP u.1) + 1)) (v := nI (mLd u.1 ((mP u.1) + 1))) X hK hP (wR_g G ((u.1, Y)) (k := 3) (by decide)) (by omega) (by decide) rfl dX3_epoch_27 ?_
    obtain ⟨v, hv⟩ : ∃ v, mLd u.1 (mP u.1 + 1) = v := ⟨_, rfl⟩
    refine k_ti (congrArg nI hv) ?_
    have hvn : v < gn G := hv ▸ kLd _
    refine lv_istore_n (lv' := [(1, .int (nI v)), (0, .ref (gL G 0))]) hx hb dX3_epoch_28 rfl hl (by decide) rfl (fun ls hl => ?_)
    refine lv_aload_n hx hb dX3_epoch_29 rfl (lv_at hl 1 rfl) ?_
    refine k_get (v := .ref (gL G 1)) X hK inX3 rfl hP (wR_g G ((u.1, Y)) (k := 0) (by decide)) 2 (by decide) tw_2_137 rfl dX3_epoch_30 ?_
    refine lv_iload_n hx hb dX3_epoch_33 rfl (lv_at hl 0 rfl) ?_
    refine k_zld (k := v) (v := bI (mFa u.1 v)) X hK hP (wR_g G ((u.1, Y)) (k := 1) (by decide)) (by omega) (by decide) rfl dX3_epoch_34 ?_
    refine lv_if_ne (tgt := 50) hx hb dX3_epoch_35 (by decide) (fun c_35 => ?_) (fun c_35 => ?_)
    · have c_35 : (mFa u.1 v) = true := (bI_ne0 _).mp c_35
      have hroom : mFa u.1 v = true ∨ mT u.1 ≤ 60 := Or.inl c_35
      refine lv_aload_n hx hb dX3_epoch_50 rfl (lv_at hl 1 rfl) ?_
      refine lv_dup hx hb dX3_epoch_51 rfl ?_
      refine k_get (v := .int (nI (mP u.1))) X hK inX3 rfl hP (wR_g G ((u.1, Y)) (k := 0) (by decide)) 5 (by decide) tw_2_140 rfl dX3_epoch_52 ?_
      refine lv_iconst (v := nI 1) hx hb dX3_epoch_55 (by decide) ?_
      refine lv_iadd hx hb dX3_epoch_56 ?_
      refine k_ti (nI_add (mP u.1) 1) ?_
      refine k_put (v := .int (nI ((mP u.1) + 1))) X hK inX3 rfl tyX3_ok nmX3 hP (wR_D hL _) hS (wR_g G ((u.1, Y)) (k := 0) (by decide)) 5 (by decide) tw_2_140 rfl rfl rfl (Nat.le_of_ble_eq_true rfl) ((sP u.1 ((mP u.1) + 1), Y)) (rs_P G ((u.1, Y)) ((mP u.1) + 1)) dX3_epoch_57 (fun H locs hP hS => ?_)
      have hIn : Inv G (cNext u) := Inv_next hI hP40
      have hYn : InvY (gn G) (cNext u).1 Y := hY
      have hkn : okR G ((cNext u).1, Y) := okR_of hIn.1.1 Y
      have hTn : mT (cNext u).1 = mT u.1 := rfl
      have hPn : mP (cNext u).1 = mP u.1 + 1 := rfl
      refine lv_aload_n hx hb dX3_epoch_60 rfl (lv_at hl 1 rfl) ?_
      refine k_get (v := .ref (gL G 1)) X hK inX3 rfl hP (wR_g G (((cNext u).1, Y)) (k := 0) (by decide)) 2 (by decide) tw_2_137 rfl dX3_epoch_61 ?_
      refine lv_iload_n hx hb dX3_epoch_64 rfl (lv_at hl 0 rfl) ?_
      refine k_zld (k := v) (v := bI ((mFa ((cNext u).1)) v)) X hK hP (wR_g G (((cNext u).1, Y)) (k := 1) (by decide)) (by omega) (by decide) rfl dX3_epoch_65 ?_
      refine lv_if_ne (tgt := 137) hx hb dX3_epoch_66 (by decide) (fun c_66 => ?_) (fun c_66 => ?_)
      · have c_66 : ((mFa ((cNext u).1)) v) = true := (bI_ne0 _).mp c_66
        exact join_137 v Y (hP40) (hv) (hvn) (hroom) (by rw [cBegin, if_pos c_35]; exact hYn) _ _ _ (k_su (show _ = ((cBegin (gn G) u v).1, Y) by rw [cBegin, if_pos c_35]; rfl) hP) hS (lv_sub hl [1] rfl)
      · have c_66 : ((mFa ((cNext u).1)) v) = false := (bI_eq0 _).mp c_66
        exact absurd (c_66.symm.trans c_35) (by decide)
    · have c_35 : (mFa u.1 v) = false := (bI_eq0 _).mp c_35
      refine lv_aload_n hx hb dX3_epoch_38 rfl (lv_at hl 1 rfl) ?_
      refine k_get (v := .int (nI (mT u.1))) X hK inX3 rfl hP (wR_g G ((u.1, Y)) (k := 0) (by decide)) 6 (by decide) tw_2_141 rfl dX3_epoch_39 ?_
      refine lv_bipush (v := nI 61) hx hb dX3_epoch_42 (by decide) ?_
      refine lv_icmp_ne (tgt := 50) hx hb dX3_epoch_44 (by decide) (fun c_44 => ?_) (fun c_44 => ?_)
      · have c_44 : (mT u.1) ≠ 61 := cNe c_44 (by omega) (by omega)
        have hroom : mFa u.1 v = true ∨ mT u.1 ≤ 60 := Or.inr (by omega)
        refine lv_aload_n hx hb dX3_epoch_50 rfl (lv_at hl 1 rfl) ?_
        refine lv_dup hx hb dX3_epoch_51 rfl ?_
        refine k_get (v := .int (nI (mP u.1))) X hK inX3 rfl hP (wR_g G ((u.1, Y)) (k := 0) (by decide)) 5 (by decide) tw_2_140 rfl dX3_epoch_52 ?_
        refine lv_iconst (v := nI 1) hx hb dX3_epoch_55 (by decide) ?_
        refine lv_iadd hx hb dX3_epoch_56 ?_
        refine k_ti (nI_add (mP u.1) 1) ?_
        refine k_put (v := .int (nI ((mP u.1) + 1))) X hK inX3 rfl tyX3_ok nmX3 hP (wR_D hL _) hS (wR_g G ((u.1, Y)) (k := 0) (by decide)) 5 (by decide) tw_2_140 rfl rfl rfl (Nat.le_of_ble_eq_true rfl) ((sP u.1 ((mP u.1) + 1), Y)) (rs_P G ((u.1, Y)) ((mP u.1) + 1)) dX3_epoch_57 (fun H locs hP hS => ?_)
        have hIn : Inv G (cNext u) := Inv_next hI hP40
        have hYn : InvY (gn G) (cNext u).1 Y := hY
        have hkn : okR G ((cNext u).1, Y) := okR_of hIn.1.1 Y
        have hTn : mT (cNext u).1 = mT u.1 := rfl
        have hPn : mP (cNext u).1 = mP u.1 + 1 := rfl
        refine lv_aload_n hx hb dX3_epoch_60 rfl (lv_at hl 1 rfl) ?_
        refine k_get (v := .ref (gL G 1)) X hK inX3 rfl hP (wR_g G (((cNext u).1, Y)) (k := 0) (by decide)) 2 (by decide) tw_2_137 rfl dX3_epoch_61 ?_
        refine lv_iload_n hx hb dX3_epoch_64 rfl (lv_at hl 0 rfl) ?_
        refine k_zld (k := v) (v := bI ((mFa ((cNext u).1)) v)) X hK hP (wR_g G (((cNext u).1, Y)) (k := 1) (by decide)) (by omega) (by decide) rfl dX3_epoch_65 ?_
        refine lv_if_ne (tgt := 137) hx hb dX3_epoch_66 (by decide) (fun c_66 => ?_) (fun c_66 => ?_)
        · have c_66 : ((mFa ((cNext u).1)) v) = true := (bI_ne0 _).mp c_66
          exact absurd (c_66.symm.trans c_35) (by decide)
        · have c_66 : ((mFa ((cNext u).1)) v) = false := (bI_eq0 _).mp c_66
          refine lv_aload_n hx hb dX3_epoch_69 rfl (lv_at hl 1 rfl) ?_
          refine lv_iload_n hx hb dX3_epoch_70 rfl (lv_at hl 0 rfl) ?_
          refine k_cv (k_runV (As := [.int (nI v)]) (rest := []) X hK hP (wR_g G (((cNext u).1, Y)) (k := 0) (by decide)) rfl (m3_workOut l G (((cNext u).1, Y)) hL (hkn) (v := v) (by omega) (xCh ((cNext u)).2) (hIn.1).2.2.2.2.2.2.2.2.1 (inv_rn hIn.1 _)) ⟨rfl, rfl⟩ tw_3_6 tw_3_8 tw_0_28 tw_1_6 tw_3_9 ⟨by decide +kernel, by decide +kernel, (by decide +kernel : (parseMethodDescriptor yX3_workOut.desc).map (fun d => d.parameters.length) = some 1)⟩ ⟨Nat.le_of_ble_eq_true rfl, Nat.le_of_ble_eq_true rfl⟩ hl.1 rfl (Nat.le_of_ble_eq_true rfl) ⟨Nat.zero_le _, Nat.zero_le _⟩ dX3_epoch_71) hS (fun u_71 H locs hq_71 hP hS => ?_)
          obtain ⟨M_71, Y_71⟩ := u_71
          obtain ⟨hM_71, h4_71, hD_71, hR_71⟩ := hq_71
          dsimp only at hM_71 h4_71 hD_71 hR_71
          subst hM_71
          obtain ⟨eK, eN, eF, eT, eH⟩ := DV_uniq kPar hD_71 (hIn.1.2.2.2.2.2.2.2.2.2.2 v hvn).1
          have hYw : InvY (gn G) (cNext u).1 Y_71 := InvY_Y hYn h4_71.1 h4_71.2.1
          have hTp : xTp u.2 v < mT u.1 := hI.1.1.2.2.2.2.2.2.2.2.2.2.2.1 v
          refine lv_aload_n hx hb dX3_epoch_74 rfl (lv_at hl 1 rfl) ?_
          refine k_get (v := .ref (gL G 2)) X hK inX3 rfl hP (wR_g G ((((cNext u).1), Y_71)) (k := 0) (by decide)) 3 (by decide) tw_2_138 rfl dX3_epoch_75 ?_
          refine lv_iload_n hx hb dX3_epoch_78 rfl (lv_at hl 0 rfl) ?_
          refine k_ild (k := v) (v := (mWi ((cNext u).1)) v) X hK hP (wR_g G ((((cNext u).1), Y_71)) (k := 2) (by decide)) (by omega) (by decide) rfl dX3_epoch_79 ?_
          refine lv_istore_n (lv' := [(2, .int ((mWi ((cNext u).1)) v)), (1, .int (nI v)), (0, .ref (gL G 0))]) hx hb dX3_epoch_80 rfl hl (by decide) rfl (fun ls hl => ?_)
          refine lv_aload_n hx hb dX3_epoch_81 rfl (lv_at hl 2 rfl) ?_
          refine k_get (v := .int (nI (yTp Y_71))) X hK inX3 rfl hP (wR_g G ((((cNext u).1), Y_71)) (k := 0) (by decide)) 23 (by decide) tw_2_158 rfl dX3_epoch_82 ?_
          refine k_ti (congrArg nI eT) ?_
          refine lv_istore_n (lv' := [(3, .int (nI (xTp u.2 v))), (2, .int ((mWi ((cNext u).1)) v)), (1, .int (nI v)), (0, .ref (gL G 0))]) hx hb dX3_epoch_85 rfl hl (by decide) rfl (fun ls hl => ?_)
          have loop_86 : ∀ (d_86 : Nat) (k : Nat) (w1 : Int32), k = d_86 → (k < mT u.1) → (w1 &&& (xCl u.2 k ^^^ (-1)) = cLoad (cNext u) v) → ∀ (H : Heap) (locs : List Loc) (ls : Array Slot), va_P (gD G) vwCl ((wR G) (((cNext u).1, Y_71))) H → va_S (AR G) s.heap H locs → lv_has ls 4 [(0, .ref (gL G 0)), (1, .int (nI v)), (2, .int (w1)), (3, .int (nI k))] → W p l e ({ frames := 4, cells := 0, slots := 0, locals := 93 } : Room) s m ([.ref (gL G 0)] : List Value).toArray below meth c H locs 0 0 (MQ below (va_Qi (fun zz rr => RP (gn G) (pEpoch (gn G) u) zz rr) (KB G (wR G)) (AR G)) ([.ref (gL G 0)] : List Value).toArray s 0 0 (AR G)) (F0 m 86 ls []) := by
            intro d_86
            induction d_86 using Nat.strongRecOn with
            | ind d_86 ih_86 =>
              intro k w1 hd_86 hkT hw1 H locs ls hP hS hl
              refine lv_iload_n hx hb dX3_epoch_86 rfl (lv_at hl 3 rfl) ?_
              refine lv_iconst (v := -1) hx hb dX3_epoch_87 (by decide) ?_
              refine lv_icmp_eq (tgt := 112) hx hb dX3_epoch_88 (by decide) (fun c_88 => ?_) (fun c_88 => ?_)
              · exact absurd c_88 (m1_ne (by omega))
              · refine lv_iload_n hx hb dX3_epoch_91 rfl (lv_at hl 2 rfl) ?_
                refine lv_aload_n hx hb dX3_epoch_92 rfl (lv_at hl 0 rfl) ?_
                refine k_get (v := .ref (gL G 6)) X hK inX3 rfl hP (wR_g G (((cNext u).1, Y_71)) (k := 0) (by decide)) 9 (by decide) tw_2_144 rfl dX3_epoch_93 ?_
                refine lv_iload_n hx hb dX3_epoch_96 rfl (lv_at hl 3 rfl) ?_
                refine k_ild (k := k) (v := (mLo ((cNext u).1)) k) X hK hP (wR_g G (((cNext u).1, Y_71)) (k := 6) (by decide)) (by omega) (by decide) rfl dX3_epoch_97 ?_
                refine lv_iconst (v := -1) hx hb dX3_epoch_98 (by decide) ?_
                refine lv_ixor hx hb dX3_epoch_99 ?_
                refine lv_iand hx hb dX3_epoch_100 ?_
                refine lv_istore_n (lv' := [(2, .int (w1 &&& (((mLo ((cNext u).1)) k) ^^^ (-1)))), (0, .ref (gL G 0)), (1, .int (nI v)), (3, .int (nI k))]) hx hb dX3_epoch_101 rfl hl (by decide) rfl (fun ls hl => ?_)
                refine lv_aload_n hx hb dX3_epoch_102 rfl (lv_at hl 1 rfl) ?_
                refine k_get (v := .ref (gL G 4)) X hK inX3 rfl hP (wR_g G (((cNext u).1, Y_71)) (k := 0) (by decide)) 7 (by decide) tw_2_142 rfl dX3_epoch_103 ?_
                refine lv_iload_n hx hb dX3_epoch_106 rfl (lv_at hl 3 rfl) ?_
                refine k_ild (k := k) (v := eP (mPar ((cNext u).1)) k) X hK hP (wR_g G (((cNext u).1, Y_71)) (k := 4) (by decide)) (by omega) (by decide) rfl dX3_epoch_107 ?_
                rcases Nat.eq_zero_or_pos k with hk0 | hk0
                · refine k_ti (show eP (mPar (cNext u).1) k = -1 by rw [hk0]; rfl) ?_
                  refine lv_istore_n (lv' := [(3, .int (-1)), (2, .int (w1 &&& (((mLo ((cNext u).1)) k) ^^^ (-1)))), (0, .ref (gL G 0)), (1, .int (nI v))]) hx hb dX3_epoch_108 rfl hl (by decide) rfl (fun ls hl => ?_)
                  refine lv_goto (tgt := 86) hx hb dX3_epoch_109 (by decide) ?_
                  refine lv_iload_n hx hb dX3_epoch_86 rfl (lv_at hl 0 rfl) ?_
                  refine lv_iconst (v := -1) hx hb dX3_epoch_87 (by decide) ?_
                  refine lv_icmp_eq (tgt := 112) hx hb dX3_epoch_88 (by decide) (fun c_88 => ?_) (fun c_88 => ?_)
                  · have hw2 : w1 &&& (mLo (cNext u).1 k ^^^ (-1)) = cLoad (cNext u) v := by
                      have hcl := hI.1.2.2.2.2.2.2.2.2.2.1 k hkT
                      rw [if_pos hk0] at hcl
                      rw [← hw1, hcl, hk0]; rfl
                    refine lv_aload_n hx hb dX3_epoch_112 rfl (lv_at hl 2 rfl) ?_
                    refine lv_aload_n hx hb dX3_epoch_113 rfl (lv_at hl 2 rfl) ?_
                    refine k_get (v := .int (nI (yTp Y_71))) X hK inX3 rfl hP (wR_g G (((cNext u).1, Y_71)) (k := 0) (by decide)) 23 (by decide) tw_2_158 rfl dX3_epoch_114 ?_
                    refine k_ti (congrArg nI eT) ?_
                    refine lv_aload_n hx hb dX3_epoch_117 rfl (lv_at hl 2 rfl) ?_
                    refine k_get (v := .int (nI (mP ((cNext u).1)))) X hK inX3 rfl hP (wR_g G (((cNext u).1, Y_71)) (k := 0) (by decide)) 5 (by decide) tw_2_140 rfl dX3_epoch_118 ?_
                    refine lv_iload_n hx hb dX3_epoch_121 rfl (lv_at hl 1 rfl) ?_
                    refine k_ti hw2 ?_
                    have hT60 : mT u.1 ≤ 60 := hroom.resolve_left (by rw [c_35]; decide)
                    refine lv_iload_n hx hb dX3_epoch_122 rfl (lv_at hl 3 rfl) ?_
                    refine k_ci (k_runV (As := [.int (nI (xTp u.2 v)), .int (nI (mP ((cNext u).1))), .int (cLoad (cNext u) v), .int (nI v)]) (rest := []) X hK hP (wR_g G (((cNext u).1, Y_71)) (k := 0) (by decide)) rfl (m3_newBlock l G (((cNext u).1, Y_71)) hL (hkn) (o := (xTp u.2 v)) (e0 := (mP ((cNext u).1))) (v := v) (show xTp u.2 v < mT u.1 by omega) (show mT u.1 ≤ 60 by omega) (cLoad (cNext u) v)) ⟨rfl, rfl⟩ tw_3_17 tw_3_19 tw_0_30 tw_1_6 tw_3_20 ⟨by decide +kernel, by decide +kernel, (by decide +kernel : (parseMethodDescriptor yX3_newBlock.desc).map (fun d => d.parameters.length) = some 4)⟩ ⟨Nat.le_of_ble_eq_true rfl, Nat.le_of_ble_eq_true rfl⟩ hl.1 rfl (Nat.le_of_ble_eq_true rfl) ⟨Nat.zero_le _, Nat.zero_le _⟩ dX3_epoch_123) hS (fun r_123 u_123 H locs hq_123 hP hS => ?_)
                    have hP := k_su hq_123.2 hP
                    refine k_ti hq_123.1 ?_
                    have hIm : Inv G (cMkTip (cNext u) v) := Inv_mkTip hIn (by omega) hT60
                    have hYm : InvY (gn G) (cMkTip (cNext u) v).1 Y_71 := InvY_make hIn.1 hYw _ _ _ _
                    have hkm : okR G ((cMkTip (cNext u) v).1, Y_71) := okR_of hIm.1.1 _
                    refine lv_istore_n (lv' := [(3, .int (nI (mT ((cNext u).1)))), (2, .int (w1 &&& (((mLo ((cNext u).1)) k) ^^^ (-1)))), (0, .ref (gL G 0)), (1, .int (nI v))]) hx hb dX3_epoch_126 rfl hl (by decide) rfl (fun ls hl => ?_)
                    refine lv_aload_n hx hb dX3_epoch_127 rfl (lv_at hl 2 rfl) ?_
                    refine lv_iload_n hx hb dX3_epoch_128 rfl (lv_at hl 3 rfl) ?_
                    refine lv_iload_n hx hb dX3_epoch_129 rfl (lv_at hl 0 rfl) ?_
                    refine lv_iconst (v := -1) hx hb dX3_epoch_130 (by decide) ?_
                    refine k_ci (k_runS (As := [.int (nI (mT ((cNext u).1))), .int (-1)]) (rest := [.int (nI v), .ref (gL G 0)]) X hK hP (m3_letterN l G (AR G) (wR G) (((cMkTip (cNext u) v).1, Y_71)) (mT ((cNext u).1))) ⟨rfl, rfl⟩ tw_3_10 tw_3_11 tw_1_6 tw_3_12 ⟨by decide +kernel, by decide +kernel, (by decide +kernel : (parseMethodDescriptor yX3_letter.desc).map (fun d => d.parameters.length) = some 2)⟩ ⟨Nat.le_of_ble_eq_true rfl, Nat.le_of_ble_eq_true rfl⟩ hl.1 rfl (Nat.le_of_ble_eq_true rfl) ⟨Nat.zero_le _, Nat.zero_le _⟩ dX3_epoch_131) hS (fun r_131 u_131 H locs hq_131 hP hS => ?_)
                    have hP := k_su hq_131.2 hP
                    refine k_ti hq_131.1 ?_
                    refine k_cv (k_runV (As := [.int (nI v), .int (nI (11 * (mT ((cNext u).1))))]) (rest := []) X hK hP (wR_g G (((cMkTip (cNext u) v).1, Y_71)) (k := 0) (by decide)) rfl (m3_gain l G (((cMkTip (cNext u) v).1, Y_71)) hL (hkm) (v := v) (l0 := (11 * (mT ((cNext u).1)))) (by omega) (by omega)) ⟨rfl, rfl⟩ tw_3_21 tw_3_23 tw_0_31 tw_1_6 tw_3_24 ⟨by decide +kernel, by decide +kernel, (by decide +kernel : (parseMethodDescriptor yX3_gain.desc).map (fun d => d.parameters.length) = some 2)⟩ ⟨Nat.le_of_ble_eq_true rfl, Nat.le_of_ble_eq_true rfl⟩ hl.1 rfl (Nat.le_of_ble_eq_true rfl) ⟨Nat.zero_le _, Nat.zero_le _⟩ dX3_epoch_134) hS (fun u_134 H locs hq_134 hP hS => ?_)
                    have hP := k_su hq_134 hP
                    have hP := k_wr (tp_wR hIm.1 v (mT u.1) _) hP
                    have hYt := InvY_takeP hIm.1 hYm (v := v) (b := mT u.1) hvn kT1 (Nat.lt_succ_self _) (new_hs hI.1 v)
                    exact join_137 v ((gnY Y_71 (11 * mT u.1) v)) (hP40) (hv) (hvn) (hroom) (by rw [cBegin, if_neg (by rw [c_35]; decide)]; exact hYt) _ _ _ (k_su (show _ = ((cBegin (gn G) u v).1, (gnY Y_71 (11 * mT u.1) v)) by rw [cBegin, if_neg (by rw [c_35]; decide)]; rfl) hP) hS (lv_sub hl [2] rfl)
                  · exact absurd rfl c_88
                · refine k_ti (eP_pos hk0) ?_
                  have hpk := kPar k hk0
                  refine lv_istore_n (lv' := [(3, .int (nI (mPar u.1 k))), (2, .int (w1 &&& (((mLo ((cNext u).1)) k) ^^^ (-1)))), (0, .ref (gL G 0)), (1, .int (nI v))]) hx hb dX3_epoch_108 rfl hl (by decide) rfl (fun ls hl => ?_)
                  refine lv_goto (tgt := 86) hx hb dX3_epoch_109 (by decide) ?_
                  exact ih_86 ((mPar u.1 k)) (by omega) (mPar u.1 k) (w1 &&& (((mLo ((cNext u).1)) k) ^^^ (-1))) rfl (by omega) (by
                    have hcl := hI.1.2.2.2.2.2.2.2.2.2.1 k hkT
                    rw [if_neg (Nat.ne_of_gt hk0)] at hcl
                    rw [← hw1, hcl]; exact wn_step _ _ _) _ _ _ hP hS (lv_sub hl [2, 3, 1, 0] rfl)
          exact loop_86 _ (xTp u.2 v) (mWi u.1 v) rfl (hTp) (rfl) _ _ _ hP hS (lv_sub hl [3, 2, 1, 0] rfl)
      · have c_44 : (mT u.1) = 61 := cEq c_44 (by omega) (by omega)
        refine lv_bipush (v := -4) hx hb dX3_epoch_47 (by decide) ?_
        exact k_reti X hr hlocks hP hS dX3_epoch_49 (rp (w := u) (by rw [pEpoch, if_neg (by omega), hv, if_pos (by rw [c_35, decide_eq_false (by omega)]; rfl)]) hY)
  · have c_11 : (mP u.1) = 40 := cEq c_11 (by omega) (by omega)
    refine lv_bipush (v := -3) hx hb dX3_epoch_14 (by decide) ?_
    exact k_reti X hr hlocks hP hS dX3_epoch_16 (rp (w := u) (by rw [pEpoch, if_pos (by omega)]) hY)
