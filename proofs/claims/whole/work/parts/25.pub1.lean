set_option maxHeartbeats 4000000 in
set_option maxRecDepth 100000 in
theorem m2_lead (l : Launch) (G : kG) (u : CS) (hL : lay G) (hk : okC G u) (x y : Int32) : KMi l G (AC G) (wC G) yX2_lead cX2_lead 4 (Option.some FieldType.int) ({ frames := 1, cells := 0, slots := 0, locals := 22 }) [.ref (gL G 0), .int (x), .int (y)] u (fun r u' => pLead (gn G) u x y = (r, u')) := by
  refine K_of (by decide) (Nat.le_of_ble_eq_true rfl) ?_
  intro p e s m below meth c X hr hlocks hnm hK hP ls hl
  have hx := X.1
  have hb := X.2.1
  have hown := X.2.2.2.1
  have hts := X.2.2.2.2
  have hS : va_S (AC G) s.heap s.heap [] := va_S.rf
  have hl : lv_has ls 4 [(0, .ref (gL G 0)), (1, .int (x)), (2, .int (y))] := hl
  obtain ⟨kn4, kn10, kT1, kT61, kP40, kLd, kPar, kEp, kHt, kFc, kVf, kTp, kHf⟩ := id hk
  refine lv_iload_n hx hb dX2_lead_0 rfl (lv_at hl 1 rfl) ?_
  refine k_ci (k_runS (As := [.int (x)]) (rest := []) X hK hP (m2_isEpoch l G (AC G) (wC G) u x) ⟨rfl, rfl⟩ tw_1_162 tw_1_163 tw_1_1 tw_1_164 ⟨by decide +kernel, by decide +kernel, (by decide +kernel : (parseMethodDescriptor yX2_isEpoch.desc).map (fun d => d.parameters.length) = some 1)⟩ ⟨Nat.le_of_ble_eq_true rfl, Nat.le_of_ble_eq_true rfl⟩ hl.1 rfl (Nat.le_of_ble_eq_true rfl) ⟨Nat.zero_le _, Nat.zero_le _⟩ dX2_lead_1) hS (fun r_1 u_1 H locs hq_1 hP hS => ?_)
  have hP := k_su hq_1.1 hP
  rcases hq_1.2 with ⟨j_1, hj_1, hx_1, hr_1⟩ | ⟨hz_1, hr_1⟩
  · subst hx_1
    subst hr_1
    refine lv_if_eq (tgt := 15) hx hb dX2_lead_4 (by decide) (fun c_4 => ?_) (fun c_4 => ?_)
    · exact absurd c_4 (by decide)
    · refine lv_aload_n hx hb dX2_lead_7 rfl (lv_at hl 0 rfl) ?_
      refine lv_iload_n hx hb dX2_lead_8 rfl (lv_at hl 2 rfl) ?_
      refine k_cq (k_runV (As := [.int (y)]) (rest := []) X hK hP (wC_g G u (k := 0) (by decide)) rfl (m2_nodeAt l G u hL (hk) y) ⟨rfl, rfl⟩ tw_1_165 tw_1_167 tw_0_0 tw_1_1 tw_1_168 ⟨by decide +kernel, by decide +kernel, (by decide +kernel : (parseMethodDescriptor yX2_nodeAt.desc).map (fun d => d.parameters.length) = some 1)⟩ ⟨Nat.le_of_ble_eq_true rfl, Nat.le_of_ble_eq_true rfl⟩ hl.1 rfl (Nat.le_of_ble_eq_true rfl) ⟨Nat.zero_le _, Nat.zero_le _⟩ dX2_lead_9) hS (fun r_9 u_9 H locs hq_9 hP hS => ?_)
      have hP := k_su hq_9.1 hP
      rcases hq_9.2 with ⟨j_9, hj_9, hx_9, hr_9⟩ | ⟨hz_9, hr_9⟩
      · subst hx_9
        subst hr_9
        refine k_qs ?_
        refine lv_ifnonnull (tgt := 18) hx hb dX2_lead_12 (by decide) ?_
        refine lv_iload_n hx hb dX2_lead_18 rfl (lv_at hl 1 rfl) ?_
        refine lv_aload_n hx hb dX2_lead_19 rfl (lv_at hl 0 rfl) ?_
        refine k_get (v := .int (nI (mP u.1))) X hK inX2 rfl hP (wC_g G u (k := 0) (by decide)) 3 (by decide) tw_1_142 rfl dX2_lead_20 ?_
        refine lv_icmp_le (tgt := 37) hx hb dX2_lead_23 (by decide) (fun c_23 => ?_) (fun c_23 => ?_)
        · have c_23 : j_1 ≤ (mP u.1) := cLe c_23 (by omega) (by omega)
          refine lv_bipush (v := -3) hx hb dX2_lead_37 (by decide) ?_
          exact k_reti X hr hlocks hP hS dX2_lead_39 (by simp only [pLead, ixE_some hj_1, ix_some hj_9 (show gn G < 2 ^ 31 by omega)]; rw [if_pos (by first | (simp [c_34]; done) | (simp [c_23]; done))])
        · have c_23 : (mP u.1) < j_1 := cNle c_23 (by omega) (by omega)
          refine lv_aload_n hx hb dX2_lead_26 rfl (lv_at hl 0 rfl) ?_
          refine k_get (v := .ref (gL G 3)) X hK inX2 rfl hP (wC_g G u (k := 0) (by decide)) 0 (by decide) tw_1_139 rfl dX2_lead_27 ?_
          refine lv_iload_n hx hb dX2_lead_30 rfl (lv_at hl 1 rfl) ?_
          refine k_ci (k_runN (As := [.int (nI j_1)]) (rest := []) X hK hP (wC_g G u (k := 3) (by decide)) rfl (m0_hasOneOf l G u hL (hk) (e0 := j_1) (by omega)) ⟨rfl, rfl⟩ ntw_1_169 tw_1_171 tw_0_1 tw_1_3 tw_1_172 ⟨by decide +kernel, by decide +kernel, (by decide +kernel : (parseMethodDescriptor yX0_hasOneOf.desc).map (fun d => d.parameters.length) = some 1)⟩ ⟨Nat.le_of_ble_eq_true rfl, Nat.le_of_ble_eq_true rfl⟩ hl.1 rfl (Nat.le_of_ble_eq_true rfl) ⟨Nat.zero_le _, Nat.zero_le _⟩ dX2_lead_31) hS (fun r_31 u_31 H locs hq_31 hP hS => ?_)
          have hP := k_su hq_31.2 hP
          refine k_ti hq_31.1 ?_
          refine lv_if_eq (tgt := 40) hx hb dX2_lead_34 (by decide) (fun c_34 => ?_) (fun c_34 => ?_)
          · have c_34 : (hasEp u.1 j_1) = false := (bI_eq0 _).mp c_34
            refine lv_aload_n hx hb dX2_lead_40 rfl (lv_at hl 0 rfl) ?_
            refine k_get (v := .ref (gL G 2)) X hK inX2 rfl hP (wC_g G u (k := 0) (by decide)) 2 (by decide) tw_1_141 rfl dX2_lead_41 ?_
            refine lv_iload_n hx hb dX2_lead_44 rfl (lv_at hl 1 rfl) ?_
            refine k_ild (v := nI (mLd u.1 j_1)) X hK hP (wC_g G u (k := 2) (by decide)) (by omega) (by decide) rfl dX2_lead_45 ?_
            refine lv_istore_n (lv' := [(3, .int (nI (mLd u.1 j_1))), (0, .ref (gL G 0)), (1, .int (nI j_1)), (2, .int (nI j_9))]) hx hb dX2_lead_46 rfl hl (by decide) rfl (fun ls hl => ?_)
            refine lv_aload_n hx hb dX2_lead_47 rfl (lv_at hl 1 rfl) ?_
            refine k_get (v := .ref (gL G 2)) X hK inX2 rfl hP (wC_g G u (k := 0) (by decide)) 2 (by decide) tw_1_141 rfl dX2_lead_48 ?_
            refine lv_iload_n hx hb dX2_lead_51 rfl (lv_at hl 2 rfl) ?_
            refine lv_iload_n hx hb dX2_lead_52 rfl (lv_at hl 3 rfl) ?_
            refine k_ist (x := nI j_9) X hK hP (wC_D hL _) hS (wC_g G u (k := 2) (by decide)) (by omega) (by decide) ((sLd u.1 (va_up (mLd u.1) j_1 j_9), u.2)) (cs_Ld G u j_1 j_9) dX2_lead_53 (fun H locs hP hS => ?_)
            have ok_53 : okC G ((sLd u.1 (va_up (mLd u.1) j_1 j_9), u.2)) := ok_lead hk (by omega)
            refine lv_iload_n hx hb dX2_lead_54 rfl (lv_at hl 0 rfl) ?_
            exact k_reti X hr hlocks hP hS dX2_lead_55 (by simp only [pLead, ixE_some hj_1, ix_some hj_9 (show gn G < 2 ^ 31 by omega)]; rw [if_neg (by simp [c_34]; omega)])
          · have c_34 : (hasEp u.1 j_1) = true := (bI_ne0 _).mp c_34
            refine lv_bipush (v := -3) hx hb dX2_lead_37 (by decide) ?_
            exact k_reti X hr hlocks hP hS dX2_lead_39 (by simp only [pLead, ixE_some hj_1, ix_some hj_9 (show gn G < 2 ^ 31 by omega)]; rw [if_pos (by first | (simp [c_34]; done) | (simp [c_23]; done))])
      · subst hr_9
        refine k_qn ?_
        refine lv_ifnonnullN hx hb dX2_lead_12 ?_
        refine lv_bipush (v := -2) hx hb dX2_lead_15 (by decide) ?_
        exact k_reti X hr hlocks hP hS dX2_lead_17 (by simp only [pLead, ixE_some hj_1, ix_none hz_9 (show gn G < 2 ^ 31 by omega)] <;> rfl)
  · subst hr_1
    refine lv_if_eq (tgt := 15) hx hb dX2_lead_4 (by decide) (fun c_4 => ?_) (fun c_4 => ?_)
    · refine lv_bipush (v := -2) hx hb dX2_lead_15 (by decide) ?_
      exact k_reti X hr hlocks hP hS dX2_lead_17 (by simp only [pLead, ixE_none hz_1] <;> rfl)
    · exact absurd rfl c_4

set_option maxHeartbeats 4000000 in
set_option maxRecDepth 100000 in
theorem m2_fall (l : Launch) (G : kG) (u : CS) (hL : lay G) (hk : okC G u) (x : Int32) : KMi l G (AC G) (wC G) yX2_fall cX2_fall 3 (Option.some FieldType.int) ({ frames := 1, cells := 0, slots := 0, locals := 21 }) [.ref (gL G 0), .int (x)] u (fun r u' => pFall (gn G) u x = (r, u')) := by
  refine K_of (by decide) (Nat.le_of_ble_eq_true rfl) ?_
  intro p e s m below meth c X hr hlocks hnm hK hP ls hl
  have hx := X.1
  have hb := X.2.1
  have hown := X.2.2.2.1
  have hts := X.2.2.2.2
  have hS : va_S (AC G) s.heap s.heap [] := va_S.rf
  have hl : lv_has ls 3 [(0, .ref (gL G 0)), (1, .int (x))] := hl
  obtain ⟨kn4, kn10, kT1, kT61, kP40, kLd, kPar, kEp, kHt, kFc, kVf, kTp, kHf⟩ := id hk
  refine lv_aload_n hx hb dX2_fall_0 rfl (lv_at hl 0 rfl) ?_
  refine lv_iload_n hx hb dX2_fall_1 rfl (lv_at hl 1 rfl) ?_
  refine k_cq (k_runV (As := [.int (x)]) (rest := []) X hK hP (wC_g G u (k := 0) (by decide)) rfl (m2_nodeAt l G u hL (hk) x) ⟨rfl, rfl⟩ tw_1_165 tw_1_167 tw_0_0 tw_1_1 tw_1_168 ⟨by decide +kernel, by decide +kernel, (by decide +kernel : (parseMethodDescriptor yX2_nodeAt.desc).map (fun d => d.parameters.length) = some 1)⟩ ⟨Nat.le_of_ble_eq_true rfl, Nat.le_of_ble_eq_true rfl⟩ hl.1 rfl (Nat.le_of_ble_eq_true rfl) ⟨Nat.zero_le _, Nat.zero_le _⟩ dX2_fall_2) hS (fun r_2 u_2 H locs hq_2 hP hS => ?_)
  have hP := k_su hq_2.1 hP
  rcases hq_2.2 with ⟨j_2, hj_2, hx_2, hr_2⟩ | ⟨hz_2, hr_2⟩
  · subst hx_2
    subst hr_2
    refine k_qs ?_
    refine lv_astore_n (lv' := [(2, .ref (gL G (11 + 5 * j_2))), (0, .ref (gL G 0)), (1, .int (nI j_2))]) hx hb dX2_fall_5 rfl hl (by decide) rfl (fun ls hl => ?_)
    refine lv_aload_n hx hb dX2_fall_6 rfl (lv_at hl 0 rfl) ?_
    refine lv_ifnonnull (tgt := 13) hx hb dX2_fall_7 (by decide) ?_
    refine lv_aload_n hx hb dX2_fall_13 rfl (lv_at hl 0 rfl) ?_
    refine k_gn (v := .int (bI ((mFa u.1) j_2))) X hK inX1 rfl hP (wC_n0 G u hj_2) 3 (by decide) ntw_1_83 rfl dX2_fall_14 ?_
    refine lv_if_eq (tgt := 22) hx hb dX2_fall_17 (by decide) (fun c_17 => ?_) (fun c_17 => ?_)
    · have c_17 : ((mFa u.1) j_2) = false := (bI_eq0 _).mp c_17
      refine lv_aload_n hx hb dX2_fall_22 rfl (lv_at hl 0 rfl) ?_
      refine lv_iconst (v := nI 1) hx hb dX2_fall_23 (by decide) ?_
      refine k_ti (show nI 1 = bI true from rfl) ?_
      refine k_pn (v := .int (bI true)) X hK inX1 rfl tyX1_ok nmX1 hP (wC_D hL _) hS (wC_n0 G u hj_2) 3 (by decide) ntw_1_83 rfl (bI_nar _) (bI_fit _) (Nat.le_of_ble_eq_true rfl) ((sFa u.1 (va_up (mFa u.1) j_2 true), u.2)) (cn_Fa G u hj_2 true) dX2_fall_24 (fun H locs hP hS => ?_)
      have ok_24 : okC G ((sFa u.1 (va_up (mFa u.1) j_2 true), u.2)) := hk
      refine lv_iconst (v := nI 1) hx hb dX2_fall_27 (by decide) ?_
      exact k_reti X hr hlocks hP hS dX2_fall_28 (by simp only [pFall, ix_some hj_2 (show gn G < 2 ^ 31 by omega)]; rw [if_neg (by rw [c_17]; decide)]; rfl)
    · have c_17 : ((mFa u.1) j_2) = true := (bI_ne0 _).mp c_17
      refine lv_iconst (v := nI 0) hx hb dX2_fall_20 (by decide) ?_
      exact k_reti X hr hlocks hP hS dX2_fall_21 (by simp only [pFall, ix_some hj_2 (show gn G < 2 ^ 31 by omega)]; rw [if_pos c_17]; rfl)
  · subst hr_2
    refine k_qn ?_
    refine lv_astore_nN (lv' := [(2, .null), (0, .ref (gL G 0)), (1, .int (x))]) hx hb dX2_fall_5 rfl hl (by decide) rfl (fun ls hl => ?_)
    refine lv_aload_nN hx hb dX2_fall_6 rfl (lv_at hl 0 rfl) ?_
    refine lv_ifnonnullN hx hb dX2_fall_7 ?_
    refine lv_bipush (v := -2) hx hb dX2_fall_10 (by decide) ?_
    exact k_reti X hr hlocks hP hS dX2_fall_12 (by simp only [pFall, ix_none hz_2 (show gn G < 2 ^ 31 by omega)] <;> rfl)

set_option maxHeartbeats 4000000 in
set_option maxRecDepth 100000 in
theorem m2_wish (l : Launch) (G : kG) (u : CS) (hL : lay G) (hk : okC G u) (x y : Int32) : KMi l G (AC G) (wC G) yX2_wish cX2_wish 5 (Option.some FieldType.int) ({ frames := 1, cells := 0, slots := 0, locals := 21 }) [.ref (gL G 0), .int (x), .int (y)] u (fun r u' => pWish (gn G) u x y = (r, u')) := by
  refine K_of (by decide) (Nat.le_of_ble_eq_true rfl) ?_
  intro p e s m below meth c X hr hlocks hnm hK hP ls hl
  have hx := X.1
  have hb := X.2.1
  have hown := X.2.2.2.1
  have hts := X.2.2.2.2
  have hS : va_S (AC G) s.heap s.heap [] := va_S.rf
  have hl : lv_has ls 5 [(0, .ref (gL G 0)), (1, .int (x)), (2, .int (y))] := hl
  obtain ⟨kn4, kn10, kT1, kT61, kP40, kLd, kPar, kEp, kHt, kFc, kVf, kTp, kHf⟩ := id hk
  refine lv_aload_n hx hb dX2_wish_0 rfl (lv_at hl 0 rfl) ?_
  refine lv_iload_n hx hb dX2_wish_1 rfl (lv_at hl 1 rfl) ?_
  refine k_cq (k_runV (As := [.int (x)]) (rest := []) X hK hP (wC_g G u (k := 0) (by decide)) rfl (m2_nodeAt l G u hL (hk) x) ⟨rfl, rfl⟩ tw_1_165 tw_1_167 tw_0_0 tw_1_1 tw_1_168 ⟨by decide +kernel, by decide +kernel, (by decide +kernel : (parseMethodDescriptor yX2_nodeAt.desc).map (fun d => d.parameters.length) = some 1)⟩ ⟨Nat.le_of_ble_eq_true rfl, Nat.le_of_ble_eq_true rfl⟩ hl.1 rfl (Nat.le_of_ble_eq_true rfl) ⟨Nat.zero_le _, Nat.zero_le _⟩ dX2_wish_2) hS (fun r_2 u_2 H locs hq_2 hP hS => ?_)
  have hP := k_su hq_2.1 hP
  rcases hq_2.2 with ⟨j_2, hj_2, hx_2, hr_2⟩ | ⟨hz_2, hr_2⟩
  · subst hx_2
    subst hr_2
    refine k_qs ?_
    refine lv_astore_n (lv' := [(3, .ref (gL G (11 + 5 * j_2))), (0, .ref (gL G 0)), (1, .int (nI j_2)), (2, .int (y))]) hx hb dX2_wish_5 rfl hl (by decide) rfl (fun ls hl => ?_)
    refine lv_aload_n hx hb dX2_wish_6 rfl (lv_at hl 0 rfl) ?_
    refine lv_ifnull hx hb dX2_wish_7 ?_
    refine lv_iload_n hx hb dX2_wish_10 rfl (lv_at hl 3 rfl) ?_
    refine lv_if_lt (tgt := 20) hx hb dX2_wish_11 (by decide) (fun c_11 => ?_) (fun c_11 => ?_)
    · have hz32 : ∀ j : Nat, j < 32 → y ≠ nI j := fun j hj => ix_lo c_11 hj (by decide)
      refine lv_bipush (v := -2) hx hb dX2_wish_20 (by decide) ?_
      exact k_reti X hr hlocks hP hS dX2_wish_22 (by simp only [pWish, ix_some hj_2 (show gn G < 2 ^ 31 by omega), ix_none hz32 (show 32 < 2 ^ 31 by decide)] <;> rfl)
    · refine lv_iload_n hx hb dX2_wish_14 rfl (lv_at hl 3 rfl) ?_
      refine lv_bipush (v := nI 32) hx hb dX2_wish_15 (by decide) ?_
      refine lv_icmp_lt (tgt := 23) hx hb dX2_wish_17 (by decide) (fun c_17 => ?_) (fun c_17 => ?_)
      · obtain ⟨k, hk32, rfl⟩ := ix_in c_11 c_17 (by decide)
        refine lv_aload_n hx hb dX2_wish_23 rfl (lv_at hl 0 rfl) ?_
        refine k_gn (v := .int ((mWi u.1) j_2)) X hK inX1 rfl hP (wC_n0 G u hj_2) 4 (by decide) ntw_1_84 rfl dX2_wish_24 ?_
        refine lv_istore (lv' := [(4, .int ((mWi u.1) j_2)), (3, .ref (gL G (11 + 5 * j_2))), (0, .ref (gL G 0)), (1, .int (nI j_2)), (2, .int (nI k))]) hx hb dX2_wish_27 hl (by decide) rfl (fun ls hl => ?_)
        refine lv_aload_n hx hb dX2_wish_29 rfl (lv_at hl 1 rfl) ?_
        refine lv_iload hx hb dX2_wish_30 (lv_at hl 0 rfl) ?_
        refine lv_iconst (v := nI 1) hx hb dX2_wish_32 (by decide) ?_
        refine lv_iload_n hx hb dX2_wish_33 rfl (lv_at hl 4 rfl) ?_
        refine lv_ishl hx hb dX2_wish_34 ?_
        refine k_ti (show nI 1 <<< (nI k &&& 31) = (1 : Int32) <<< (nI k &&& 31) from rfl) ?_
        refine lv_ior hx hb dX2_wish_35 ?_
        refine k_ti (show _ = wsh (mWi u.1 j_2) k from rfl) ?_
        refine k_pn (v := .int (wsh (mWi u.1 j_2) k)) X hK inX1 rfl tyX1_ok nmX1 hP (wC_D hL _) hS (wC_n0 G u hj_2) 4 (by decide) ntw_1_84 rfl rfl rfl (Nat.le_of_ble_eq_true rfl) ((sWi u.1 (va_up (mWi u.1) j_2 (wsh (mWi u.1 j_2) k)), u.2)) (cn_Wi G u hj_2 (wsh (mWi u.1 j_2) k)) dX2_wish_36 (fun H locs hP hS => ?_)
        have ok_36 : okC G ((sWi u.1 (va_up (mWi u.1) j_2 (wsh (mWi u.1 j_2) k)), u.2)) := hk
        refine lv_aload_n hx hb dX2_wish_39 rfl (lv_at hl 1 rfl) ?_
        refine k_gn (v := .int ((va_up (mWi u.1) j_2 (wsh (mWi u.1 j_2) k)) j_2)) X hK inX1 rfl hP (wC_n0 G ((sWi u.1 (va_up (mWi u.1) j_2 (wsh (mWi u.1 j_2) k)), u.2)) hj_2) 4 (by decide) ntw_1_84 rfl dX2_wish_40 ?_
        refine k_ti (va_up_self (mWi u.1) j_2 _) ?_
        refine lv_iload hx hb dX2_wish_43 (lv_at hl 0 rfl) ?_
        refine lv_icmp_ne (tgt := 52) hx hb dX2_wish_45 (by decide) (fun c_45 => ?_) (fun c_45 => ?_)
        · have htI : tI (mWi u.1 j_2) k = false := by
            cases h : tI (mWi u.1 j_2) k
            · rfl
            · exact absurd ((wsh_eq _ hk32).mpr h) c_45
          refine lv_iconst (v := nI 1) hx hb dX2_wish_52 (by decide) ?_
          exact k_reti X hr hlocks hP hS dX2_wish_53 (by simp only [pWish, ix_some hj_2 (show gn G < 2 ^ 31 by omega), ix_some hk32 (show 32 < 2 ^ 31 by decide)]; rw [htI]; rfl)
        · have htI : tI (mWi u.1 j_2) k = true := (wsh_eq _ hk32).mp c_45
          refine lv_iconst (v := nI 0) hx hb dX2_wish_48 (by decide) ?_
          refine lv_goto (tgt := 53) hx hb dX2_wish_49 (by decide) ?_
          exact k_reti X hr hlocks hP hS dX2_wish_53 (by simp only [pWish, ix_some hj_2 (show gn G < 2 ^ 31 by omega), ix_some hk32 (show 32 < 2 ^ 31 by decide)]; rw [htI]; rfl)
      · have hz32 : ∀ j : Nat, j < 32 → y ≠ nI j := fun j hj e => c_17 (by rw [e]; exact nI_lt hj (by decide))
        refine lv_bipush (v := -2) hx hb dX2_wish_20 (by decide) ?_
        exact k_reti X hr hlocks hP hS dX2_wish_22 (by simp only [pWish, ix_some hj_2 (show gn G < 2 ^ 31 by omega), ix_none hz32 (show 32 < 2 ^ 31 by decide)] <;> rfl)
  · subst hr_2
    refine k_qn ?_
    refine lv_astore_nN (lv' := [(3, .null), (0, .ref (gL G 0)), (1, .int (x)), (2, .int (y))]) hx hb dX2_wish_5 rfl hl (by decide) rfl (fun ls hl => ?_)
    refine lv_aload_nN hx hb dX2_wish_6 rfl (lv_at hl 0 rfl) ?_
    refine lv_ifnullN (tgt := 20) hx hb dX2_wish_7 (by decide) ?_
    refine lv_bipush (v := -2) hx hb dX2_wish_20 (by decide) ?_
    exact k_reti X hr hlocks hP hS dX2_wish_22 (by simp only [pWish, ix_none hz_2 (show gn G < 2 ^ 31 by omega)] <;> rfl)

set_option maxHeartbeats 4000000 in
set_option maxRecDepth 100000 in
theorem m2_epoch (l : Launch) (G : kG) (u : CS) (hL : lay G) (hk : okC G u) : KMi l G (AC G) (wC G) yX2_epoch cX2_epoch 6 (Option.some FieldType.int) ({ frames := 5, cells := 0, slots := 0, locals := 116 }) [.ref (gL G 0)] u (fun r u' => pEpoch (gn G) u = (r, u')) := by
  refine K_of (by decide) (Nat.le_of_ble_eq_true rfl) ?_
  intro p e s m below meth c X hr hlocks hnm hK hP ls hl
  have hx := X.1
  have hb := X.2.1
  have hown := X.2.2.2.1
  have hts := X.2.2.2.2
  have hS : va_S (AC G) s.heap s.heap [] := va_S.rf
  have hl : lv_has ls 6 [(0, .ref (gL G 0))] := hl
  obtain ⟨kn4, kn10, kT1, kT61, kP40, kLd, kPar, kEp, kHt, kFc, kVf, kTp, kHf⟩ := id hk
  have join_71 : ∀ (v : Nat) (w : CS) (hP40 : mP u.1 < 40) (hv : mLd u.1 (mP u.1 + 1) = v) (hroom : mFa u.1 v = true ∨ mT u.1 ≤ 60) (hw : w = cBegin (gn G) u v) (H : Heap) (locs : List Loc) (ls : Array Slot), va_P (gD G) vwCl ((wC G) w) H → va_S (AC G) s.heap H locs → lv_has ls 6 [(0, .ref (gL G 0))] → W p l e ({ frames := 5, cells := 0, slots := 0, locals := 116 } : Room) s m ([.ref (gL G 0)] : List Value).toArray below meth c H locs 0 0 (MQ below (va_Qi (fun r u' => pEpoch (gn G) u = (r, u')) (KB G (wC G)) (AC G)) ([.ref (gL G 0)] : List Value).toArray s 0 0 (AC G)) (F0 m 71 ls []) := by
    intro v w hP40 hv hroom hw H locs ls hP hS hl
    have hok : okC G w := by rw [hw]; exact ok_begin hk hP40 hroom
    refine lv_aload_n hx hb dX2_epoch_71 rfl (lv_at hl 0 rfl) ?_
    refine k_get (v := .ref (gL G 1)) X hK inX2 rfl hP (wC_g G w (k := 0) (by decide)) 1 (by decide) tw_1_140 rfl dX2_epoch_72 ?_
    refine lv_astore_n (lv' := [(2, .ref (gL G 1)), (0, .ref (gL G 0))]) hx hb dX2_epoch_75 rfl hl (by decide) rfl (fun ls hl => ?_)
    refine lv_aload_n hx hb dX2_epoch_76 rfl (lv_at hl 0 rfl) ?_
    refine k_len X hK hP (wC_g G w (k := 1) (by decide)) dX2_epoch_77 ?_
    refine lv_istore_n (lv' := [(3, .int (nI (gn G))), (2, .ref (gL G 1)), (0, .ref (gL G 0))]) hx hb dX2_epoch_78 rfl hl (by decide) rfl (fun ls hl => ?_)
    refine lv_iconst (v := nI 0) hx hb dX2_epoch_79 (by decide) ?_
    refine lv_istore (lv' := [(4, .int (nI 0)), (3, .int (nI (gn G))), (2, .ref (gL G 1)), (0, .ref (gL G 0))]) hx hb dX2_epoch_80 hl (by decide) rfl (fun ls hl => ?_)
    have loop_82 : ∀ (d_82 : Nat) (i : Nat) (w1 : CS), gn G - i = d_82 → (i ≤ gn G) → (w1 = lkAll (gn G) w i) → ∀ (H : Heap) (locs : List Loc) (ls : Array Slot), va_P (gD G) vwCl ((wC G) w1) H → va_S (AC G) s.heap H locs → lv_has ls 6 [(0, .ref (gL G 0)), (2, .ref (gL G 1)), (3, .int (nI (gn G))), (4, .int (nI i))] → W p l e ({ frames := 5, cells := 0, slots := 0, locals := 116 } : Room) s m ([.ref (gL G 0)] : List Value).toArray below meth c H locs 0 0 (MQ below (va_Qi (fun r u' => pEpoch (gn G) u = (r, u')) (KB G (wC G)) (AC G)) ([.ref (gL G 0)] : List Value).toArray s 0 0 (AC G)) (F0 m 82 ls []) := by
      intro d_82
      induction d_82 using Nat.strongRecOn with
      | ind d_82 ih_82 =>
        intro i w1 hd_82 hi hw1 H locs ls hP hS hl
        have hok1 : okC G w1 := by rw [hw1]; exact ok_lkAll hok _
        refine lv_iload hx hb dX2_epoch_82 (lv_at hl 3 rfl) ?_
        refine lv_iload_n hx hb dX2_epoch_84 rfl (lv_at hl 2 rfl) ?_
        refine lv_icmp_ge (tgt := 106) hx hb dX2_epoch_85 (by decide) (fun c_85 => ?_) (fun c_85 => ?_)
        · have c_85 : (gn G) ≤ i := cLe c_85 (by omega) (by omega)
          refine lv_aload_n hx hb dX2_epoch_106 rfl (lv_at hl 0 rfl) ?_
          refine k_get (v := .int (nI (mP w1.1))) X hK inX2 rfl hP (wC_g G w1 (k := 0) (by decide)) 3 (by decide) tw_1_142 rfl dX2_epoch_107 ?_
          refine k_ti (congrArg nI (show mP w1.1 = mP u.1 + 1 by rw [hw1, stat_P (st_lkAll _ _ _), hw, P_begin])) ?_
          exact k_reti X hr hlocks hP hS dX2_epoch_110 (by rw [pEpoch, if_neg (by omega), hv, if_neg (by rcases hroom with h | h <;> simp [h]), hw1, show i = gn G by omega, hw])
        · have c_85 : i < (gn G) := cNle c_85 (by omega) (by omega)
          refine lv_aload_n hx hb dX2_epoch_88 rfl (lv_at hl 1 rfl) ?_
          refine lv_iload hx hb dX2_epoch_89 (lv_at hl 3 rfl) ?_
          refine k_ald (v := gL G (11 + 5 * i)) X hK hP (wC_g G w1 (k := 1) (by decide)) (by omega) (by omega) rfl dX2_epoch_91 ?_
          refine lv_astore (lv' := [(5, .ref (gL G (11 + 5 * i))), (0, .ref (gL G 0)), (2, .ref (gL G 1)), (3, .int (nI (gn G))), (4, .int (nI i))]) hx hb dX2_epoch_92 hl (by decide) rfl (fun ls hl => ?_)
          refine lv_aload_n hx hb dX2_epoch_94 rfl (lv_at hl 1 rfl) ?_
          refine lv_aload hx hb dX2_epoch_95 (lv_at hl 0 rfl) ?_
          refine k_cv (k_runV (As := [.ref (gL G (11 + 5 * i))]) (rest := []) X hK hP (wC_g G w1 (k := 0) (by decide)) rfl (m2_look l G w1 hL (hok1) (v := i) (by omega)) ⟨rfl, rfl⟩ tw_2_0 tw_2_2 tw_0_13 tw_1_1 tw_2_3 ⟨by decide +kernel, by decide +kernel, (by decide +kernel : (parseMethodDescriptor yX2_look.desc).map (fun d => d.parameters.length) = some 1)⟩ ⟨Nat.le_of_ble_eq_true rfl, Nat.le_of_ble_eq_true rfl⟩ hl.1 rfl (Nat.le_of_ble_eq_true rfl) ⟨Nat.zero_le _, Nat.zero_le _⟩ dX2_epoch_97) hS (fun u_97 H locs hq_97 hP hS => ?_)
          have hP := k_su hq_97 hP
          have ok_97 : okC G ((cLook (gn G) w1 i)) := ok_look (hok1) _
          refine lv_iinc (v := nI (i + 1)) (lv' := [(4, .int (nI (i + 1))), (5, .ref (gL G (11 + 5 * i))), (0, .ref (gL G 0)), (2, .ref (gL G 1)), (3, .int (nI (gn G)))]) hx hb dX2_epoch_100 hl (k := 4) rfl (nI_add i 1) (by decide) rfl (fun ls hl => ?_)
          refine lv_goto (tgt := 82) hx hb dX2_epoch_103 (by decide) ?_
          exact ih_82 (gn G - (i + 1)) (by omega) (i + 1) ((cLook (gn G) w1 i)) rfl (by omega) (by rw [lkAll, ← hw1]) _ _ _ hP hS (lv_sub hl [2, 3, 4, 0] rfl)
    exact loop_82 _ 0 w rfl (Nat.zero_le _) (rfl) _ _ _ hP hS (lv_sub hl [3, 2, 1, 0] rfl)
  refine lv_aload_n hx hb dX2_epoch_0 rfl (lv_at hl 0 rfl) ?_
  refine k_get (v := .int (nI (mP u.1))) X hK inX2 rfl hP (wC_g G u (k := 0) (by decide)) 3 (by decide) tw_1_142 rfl dX2_epoch_1 ?_
  refine lv_bipush (v := nI 40) hx hb dX2_epoch_4 (by decide) ?_
  refine lv_icmp_lt (tgt := 12) hx hb dX2_epoch_6 (by decide) (fun c_6 => ?_) (fun c_6 => ?_)
  · have c_6 : (mP u.1) < 40 := cLt c_6 (by omega) (by omega)
    refine lv_aload_n hx hb dX2_epoch_12 rfl (lv_at hl 0 rfl) ?_
    refine k_get (v := .ref (gL G 1)) X hK inX2 rfl hP (wC_g G u (k := 0) (by decide)) 1 (by decide) tw_1_140 rfl dX2_epoch_13 ?_
    refine lv_aload_n hx hb dX2_epoch_16 rfl (lv_at hl 0 rfl) ?_
    refine k_get (v := .ref (gL G 2)) X hK inX2 rfl hP (wC_g G u (k := 0) (by decide)) 2 (by decide) tw_1_141 rfl dX2_epoch_17 ?_
    refine lv_aload_n hx hb dX2_epoch_20 rfl (lv_at hl 0 rfl) ?_
    refine k_get (v := .int (nI (mP u.1))) X hK inX2 rfl hP (wC_g G u (k := 0) (by decide)) 3 (by decide) tw_1_142 rfl dX2_epoch_21 ?_
    refine lv_iconst (v := nI 1) hx hb dX2_epoch_24 (by decide) ?_
    refine lv_iadd hx hb dX2_epoch_25 ?_
    refine k_ti (nI_add (mP u.1) 1) ?_
    refine k_ild (v := nI (mLd u.1 ((mP u.1) + 1))) X hK hP (wC_g G u (k := 2) (by decide)) (by omega) (by decide) rfl dX2_epoch_26 ?_
    obtain ⟨v, hv⟩ : ∃ v, mLd u.1 (mP u.1 + 1) = v := ⟨_, rfl⟩
    refine k_ti (congrArg nI hv) ?_
    have hvn : v < gn G := hv ▸ kLd _
    refine k_ald (v := gL G (11 + 5 * v)) X hK hP (wC_g G u (k := 1) (by decide)) (by omega) (by omega) rfl dX2_epoch_27 ?_
    refine lv_astore_n (lv' := [(1, .ref (gL G (11 + 5 * v))), (0, .ref (gL G 0))]) hx hb dX2_epoch_28 rfl hl (by decide) rfl (fun ls hl => ?_)
    refine lv_aload_n hx hb dX2_epoch_29 rfl (lv_at hl 0 rfl) ?_
    refine k_gn (v := .int (bI ((mFa u.1) v))) X hK inX1 rfl hP (wC_n0 G u (by omega)) 3 (by decide) ntw_1_83 rfl dX2_epoch_30 ?_
    refine lv_if_ne (tgt := 49) hx hb dX2_epoch_33 (by decide) (fun c_33 => ?_) (fun c_33 => ?_)
    · have c_33 : ((mFa u.1) v) = true := (bI_ne0 _).mp c_33
      have hroom : mFa u.1 v = true ∨ mT u.1 ≤ 60 := Or.inl c_33
      refine lv_aload_n hx hb dX2_epoch_49 rfl (lv_at hl 1 rfl) ?_
      refine lv_dup hx hb dX2_epoch_50 rfl ?_
      refine k_get (v := .int (nI (mP u.1))) X hK inX2 rfl hP (wC_g G u (k := 0) (by decide)) 3 (by decide) tw_1_142 rfl dX2_epoch_51 ?_
      refine lv_iconst (v := nI 1) hx hb dX2_epoch_54 (by decide) ?_
      refine lv_iadd hx hb dX2_epoch_55 ?_
      refine k_ti (nI_add (mP u.1) 1) ?_
      refine k_put (v := .int (nI ((mP u.1) + 1))) X hK inX2 rfl tyX2_ok nmX2 hP (wC_D hL _) hS (wC_g G u (k := 0) (by decide)) 3 (by decide) tw_1_142 rfl rfl rfl (Nat.le_of_ble_eq_true rfl) ((sP u.1 ((mP u.1) + 1), u.2)) (cs_P G u ((mP u.1) + 1)) dX2_epoch_56 (fun H locs hP hS => ?_)
      have ok_56 : okC G ((sP u.1 ((mP u.1) + 1), u.2)) := ok_next hk c_6
      refine lv_aload_n hx hb dX2_epoch_59 rfl (lv_at hl 0 rfl) ?_
      refine k_gn (v := .int (bI ((mFa u.1) v))) X hK inX1 rfl hP (wC_n0 G ((sP u.1 ((mP u.1) + 1), u.2)) (by omega)) 3 (by decide) ntw_1_83 rfl dX2_epoch_60 ?_
      refine lv_if_ne (tgt := 71) hx hb dX2_epoch_63 (by decide) (fun c_63 => ?_) (fun c_63 => ?_)
      · have c_63 : ((mFa u.1) v) = true := (bI_ne0 _).mp c_63
        exact join_71 v ((sP u.1 ((mP u.1) + 1), u.2)) (c_6) (hv) (hroom) (by rw [cBegin, if_pos c_33]; rfl) _ _ _ hP hS (lv_sub hl [1] rfl)
      · have c_63 : ((mFa u.1) v) = false := (bI_eq0 _).mp c_63
        exact absurd (c_63.symm.trans c_33) (by decide)
    · have c_33 : ((mFa u.1) v) = false := (bI_eq0 _).mp c_33
      refine lv_aload_n hx hb dX2_epoch_36 rfl (lv_at hl 1 rfl) ?_
      refine k_get (v := .ref (gL G 3)) X hK inX2 rfl hP (wC_g G u (k := 0) (by decide)) 0 (by decide) tw_1_139 rfl dX2_epoch_37 ?_
      refine k_ci (k_runN (As := []) (rest := []) X hK hP (wC_g G u (k := 3) (by decide)) rfl (m0_haveRoom l G u hL (hk)) ⟨rfl, rfl⟩ ntw_1_185 tw_1_187 tw_0_2 tw_1_3 tw_1_188 ⟨by decide +kernel, by decide +kernel, (by decide +kernel : (parseMethodDescriptor yX0_haveRoom.desc).map (fun d => d.parameters.length) = some 0)⟩ ⟨Nat.le_of_ble_eq_true rfl, Nat.le_of_ble_eq_true rfl⟩ hl.1 rfl (Nat.le_of_ble_eq_true rfl) ⟨Nat.zero_le _, Nat.zero_le _⟩ dX2_epoch_40) hS (fun r_40 u_40 H locs hq_40 hP hS => ?_)
      have hP := k_su hq_40.2 hP
      refine k_ti hq_40.1 ?_
      refine lv_if_ne (tgt := 49) hx hb dX2_epoch_43 (by decide) (fun c_43 => ?_) (fun c_43 => ?_)
      · have c_43 : (decide (mT u.1 ≤ 60)) = true := (bI_ne0 _).mp c_43
        have hroom : mFa u.1 v = true ∨ mT u.1 ≤ 60 := Or.inr (of_decide_eq_true c_43)
        have hT60 : mT u.1 ≤ 60 := of_decide_eq_true c_43
        refine lv_aload_n hx hb dX2_epoch_49 rfl (lv_at hl 1 rfl) ?_
        refine lv_dup hx hb dX2_epoch_50 rfl ?_
        refine k_get (v := .int (nI (mP u.1))) X hK inX2 rfl hP (wC_g G u (k := 0) (by decide)) 3 (by decide) tw_1_142 rfl dX2_epoch_51 ?_
        refine lv_iconst (v := nI 1) hx hb dX2_epoch_54 (by decide) ?_
        refine lv_iadd hx hb dX2_epoch_55 ?_
        refine k_ti (nI_add (mP u.1) 1) ?_
        refine k_put (v := .int (nI ((mP u.1) + 1))) X hK inX2 rfl tyX2_ok nmX2 hP (wC_D hL _) hS (wC_g G u (k := 0) (by decide)) 3 (by decide) tw_1_142 rfl rfl rfl (Nat.le_of_ble_eq_true rfl) ((sP u.1 ((mP u.1) + 1), u.2)) (cs_P G u ((mP u.1) + 1)) dX2_epoch_56 (fun H locs hP hS => ?_)
        have ok_56 : okC G ((sP u.1 ((mP u.1) + 1), u.2)) := ok_next hk c_6
        refine lv_aload_n hx hb dX2_epoch_59 rfl (lv_at hl 0 rfl) ?_
        refine k_gn (v := .int (bI ((mFa u.1) v))) X hK inX1 rfl hP (wC_n0 G ((sP u.1 ((mP u.1) + 1), u.2)) (by omega)) 3 (by decide) ntw_1_83 rfl dX2_epoch_60 ?_
        refine lv_if_ne (tgt := 71) hx hb dX2_epoch_63 (by decide) (fun c_63 => ?_) (fun c_63 => ?_)
        · have c_63 : ((mFa u.1) v) = true := (bI_ne0 _).mp c_63
          exact absurd (c_63.symm.trans c_33) (by decide)
        · have c_63 : ((mFa u.1) v) = false := (bI_eq0 _).mp c_63
          refine lv_aload_n hx hb dX2_epoch_66 rfl (lv_at hl 1 rfl) ?_
          refine lv_aload_n hx hb dX2_epoch_67 rfl (lv_at hl 0 rfl) ?_
          refine k_cv (k_runV (As := [.ref (gL G (11 + 5 * v))]) (rest := []) X hK hP (wC_g G ((sP u.1 ((mP u.1) + 1), u.2)) (k := 0) (by decide)) rfl (m2_makeOnTip l G ((sP u.1 ((mP u.1) + 1), u.2)) hL (ok_56) (v := v) (by omega) (by omega)) ⟨rfl, rfl⟩ tw_1_189 tw_1_191 tw_0_3 tw_1_1 tw_1_192 ⟨by decide +kernel, by decide +kernel, (by decide +kernel : (parseMethodDescriptor yX2_makeOnTip.desc).map (fun d => d.parameters.length) = some 1)⟩ ⟨Nat.le_of_ble_eq_true rfl, Nat.le_of_ble_eq_true rfl⟩ hl.1 rfl (Nat.le_of_ble_eq_true rfl) ⟨Nat.zero_le _, Nat.zero_le _⟩ dX2_epoch_68) hS (fun u_68 H locs hq_68 hP hS => ?_)
          have hP := k_su hq_68 hP
          have ok_68 : okC G ((cMakeOnTip (gn G) ((sP u.1 ((mP u.1) + 1), u.2)) v)) := ok_makeOnTip (ok_56) (by omega)
          exact join_71 v ((cMakeOnTip (gn G) ((sP u.1 ((mP u.1) + 1), u.2)) v)) (c_6) (hv) (hroom) (by rw [cBegin, if_neg (by rw [c_33]; decide)]; rfl) _ _ _ hP hS (lv_sub hl [1] rfl)
      · have c_43 : (decide (mT u.1 ≤ 60)) = false := (bI_eq0 _).mp c_43
        refine lv_bipush (v := -4) hx hb dX2_epoch_46 (by decide) ?_
        exact k_reti X hr hlocks hP hS dX2_epoch_48 (by rw [pEpoch, if_neg (by omega), hv, if_pos (by rw [c_33, c_43]; rfl)])
  · have c_6 : 40 ≤ (mP u.1) := cNlt c_6 (by omega) (by omega)
    refine lv_bipush (v := -3) hx hb dX2_epoch_9 (by decide) ?_
    exact k_reti X hr hlocks hP hS dX2_epoch_11 (by rw [pEpoch, if_pos c_6])

set_option maxHeartbeats 4000000 in
set_option maxRecDepth 100000 in
theorem m2_bring (l : Launch) (G : kG) (u : CS) (hL : lay G) (hk : okC G u) (hw0 : ∀ l v, l < 11 → mWy u.1 l v = false) (x y : Int32) : KMi l G (AC G) (wC G) yX2_bring cX2_bring 4 (Option.some FieldType.int) ({ frames := 5, cells := 0, slots := 0, locals := 117 }) [.ref (gL G 0), .int (x), .int (y)] u (fun r u' => pBring (gn G) u x y = (r, u')) := by
  refine K_of (by decide) (Nat.le_of_ble_eq_true rfl) ?_
  intro p e s m below meth c X hr hlocks hnm hK hP ls hl
  have hx := X.1
  have hb := X.2.1
  have hown := X.2.2.2.1
  have hts := X.2.2.2.2
  have hS : va_S (AC G) s.heap s.heap [] := va_S.rf
  have hl : lv_has ls 4 [(0, .ref (gL G 0)), (1, .int (x)), (2, .int (y))] := hl
  obtain ⟨kn4, kn10, kT1, kT61, kP40, kLd, kPar, kEp, kHt, kFc, kVf, kTp, kHf⟩ := id hk
  refine lv_aload_n hx hb dX2_bring_0 rfl (lv_at hl 0 rfl) ?_
  refine lv_iload_n hx hb dX2_bring_1 rfl (lv_at hl 2 rfl) ?_
  refine k_cq (k_runV (As := [.int (y)]) (rest := []) X hK hP (wC_g G u (k := 0) (by decide)) rfl (m2_nodeAt l G u hL (hk) y) ⟨rfl, rfl⟩ tw_1_165 tw_1_167 tw_0_0 tw_1_1 tw_1_168 ⟨by decide +kernel, by decide +kernel, (by decide +kernel : (parseMethodDescriptor yX2_nodeAt.desc).map (fun d => d.parameters.length) = some 1)⟩ ⟨Nat.le_of_ble_eq_true rfl, Nat.le_of_ble_eq_true rfl⟩ hl.1 rfl (Nat.le_of_ble_eq_true rfl) ⟨Nat.zero_le _, Nat.zero_le _⟩ dX2_bring_2) hS (fun r_2 u_2 H locs hq_2 hP hS => ?_)
  have hP := k_su hq_2.1 hP
  rcases hq_2.2 with ⟨j_2, hj_2, hx_2, hr_2⟩ | ⟨hz_2, hr_2⟩
  · subst hx_2
    subst hr_2
    refine k_qs ?_
    refine lv_astore_n (lv' := [(3, .ref (gL G (11 + 5 * j_2))), (0, .ref (gL G 0)), (1, .int (x)), (2, .int (nI j_2))]) hx hb dX2_bring_5 rfl hl (by decide) rfl (fun ls hl => ?_)
    refine lv_aload_n hx hb dX2_bring_6 rfl (lv_at hl 0 rfl) ?_
    refine lv_ifnull hx hb dX2_bring_7 ?_
    refine lv_aload_n hx hb dX2_bring_10 rfl (lv_at hl 1 rfl) ?_
    refine k_get (v := .ref (gL G 3)) X hK inX2 rfl hP (wC_g G u (k := 0) (by decide)) 0 (by decide) tw_1_139 rfl dX2_bring_11 ?_
    refine lv_iload_n hx hb dX2_bring_14 rfl (lv_at hl 2 rfl) ?_
    refine k_ci (k_runN (As := [.int (x)]) (rest := []) X hK hP (wC_g G u (k := 3) (by decide)) rfl (m0_exist l G u hL (hk) x) ⟨rfl, rfl⟩ ntw_2_24 tw_2_26 tw_0_18 tw_1_3 tw_2_27 ⟨by decide +kernel, by decide +kernel, (by decide +kernel : (parseMethodDescriptor yX0_exist.desc).map (fun d => d.parameters.length) = some 1)⟩ ⟨Nat.le_of_ble_eq_true rfl, Nat.le_of_ble_eq_true rfl⟩ hl.1 rfl (Nat.le_of_ble_eq_true rfl) ⟨Nat.zero_le _, Nat.zero_le _⟩ dX2_bring_15) hS (fun r_15 u_15 H locs hq_15 hP hS => ?_)
    have hP := k_su hq_15.1 hP
    rcases hq_15.2 with ⟨j_15, hj_15, hx_15, hr_15⟩ | ⟨hz_15, hr_15⟩
    · subst hx_15
      subst hr_15
      refine lv_if_ne (tgt := 24) hx hb dX2_bring_18 (by decide) (fun c_18 => ?_) (fun c_18 => ?_)
      · refine lv_aload_n hx hb dX2_bring_24 rfl (lv_at hl 0 rfl) ?_
        refine k_gn (v := .long (eL (pB (mWy u.1) j_2))) X hK inX1 rfl hP (wC_n0 G u hj_2) 6 (by decide) ntw_1_88 rfl dX2_bring_25 ?_
        refine lv_iload_n hx hb dX2_bring_28 rfl (lv_at hl 2 rfl) ?_
        refine k_ci (k_runS (As := [.long (eL (pB (mWy u.1) j_2)), .int (nI j_15)]) (rest := []) X hK hP (m2_holds l G (AC G) (wC G) u (eL (pB (mWy u.1) j_2)) (k := j_15) (by omega)) ⟨rfl, rfl⟩ tw_1_235 tw_1_211 tw_1_1 tw_1_212 ⟨by decide +kernel, by decide +kernel, (by decide +kernel : (parseMethodDescriptor yX2_holds.desc).map (fun d => d.parameters.length) = some 2)⟩ ⟨Nat.le_of_ble_eq_true rfl, Nat.le_of_ble_eq_true rfl⟩ hl.1 rfl (Nat.le_of_ble_eq_true rfl) ⟨Nat.zero_le _, Nat.zero_le _⟩ dX2_bring_29) hS (fun r_29 u_29 H locs hq_29 hP hS => ?_)
        have hP := k_su hq_29.2 hP
        refine k_ti (y := bI (mWy u.1 (11 * j_15) j_2)) (hq_29.1.trans (congrArg bI (tL_eL _ (by omega)))) ?_
        refine lv_if_ne (tgt := 38) hx hb dX2_bring_32 (by decide) (fun c_32 => ?_) (fun c_32 => ?_)
        · have c_32 : (mWy u.1 (11 * j_15) j_2) = true := (bI_ne0 _).mp c_32
          have hb0 : 0 < j_15 := Nat.pos_of_ne_zero fun h => by
            rw [hw0 _ _ (by omega)] at c_32
            exact absurd c_32 (by decide)
          refine lv_aload_n hx hb dX2_bring_38 rfl (lv_at hl 1 rfl) ?_
          refine lv_aload_n hx hb dX2_bring_39 rfl (lv_at hl 0 rfl) ?_
          refine lv_iload_n hx hb dX2_bring_40 rfl (lv_at hl 2 rfl) ?_
          refine k_cv (k_runV (As := [.ref (gL G (11 + 5 * j_2)), .int (nI j_15)]) (rest := []) X hK hP (wC_g G u (k := 0) (by decide)) rfl (m2_letProposalCome l G u hL (hk) (v := j_2) hj_2 (b := j_15) (by omega) (show j_15 < mT u.1 by omega)) ⟨rfl, rfl⟩ tw_2_28 tw_2_30 tw_0_19 tw_1_1 tw_2_31 ⟨by decide +kernel, by decide +kernel, (by decide +kernel : (parseMethodDescriptor yX2_letProposalCome.desc).map (fun d => d.parameters.length) = some 2)⟩ ⟨Nat.le_of_ble_eq_true rfl, Nat.le_of_ble_eq_true rfl⟩ hl.1 rfl (Nat.le_of_ble_eq_true rfl) ⟨Nat.zero_le _, Nat.zero_le _⟩ dX2_bring_41) hS (fun u_41 H locs hq_41 hP hS => ?_)
          have hP := k_su hq_41 hP
          have ok_41 : okC G ((cLetP (gn G) u j_2 j_15)) := ok_letP (hk) (show j_15 < mT u.1 by omega)
          refine lv_iconst (v := nI 1) hx hb dX2_bring_44 (by decide) ?_
          exact k_reti X hr hlocks hP hS dX2_bring_45 (by simp only [pBring, ix_some hj_2 (show gn G < 2 ^ 31 by omega), ix_some hj_15 (show mT u.1 < 2 ^ 31 by omega)]; rw [if_pos c_32]; rfl)
        · have c_32 : (mWy u.1 (11 * j_15) j_2) = false := (bI_eq0 _).mp c_32
          refine lv_bipush (v := -3) hx hb dX2_bring_35 (by decide) ?_
          exact k_reti X hr hlocks hP hS dX2_bring_37 (by simp only [pBring, ix_some hj_2 (show gn G < 2 ^ 31 by omega), ix_some hj_15 (show mT u.1 < 2 ^ 31 by omega)]; rw [if_neg (by rw [c_32]; decide)])
      · exact absurd c_18 (by decide)
    · subst hr_15
      refine lv_if_ne (tgt := 24) hx hb dX2_bring_18 (by decide) (fun c_18 => ?_) (fun c_18 => ?_)
      · exact absurd rfl c_18
      · refine lv_bipush (v := -2) hx hb dX2_bring_21 (by decide) ?_
        exact k_reti X hr hlocks hP hS dX2_bring_23 (by simp only [pBring, ix_some hj_2 (show gn G < 2 ^ 31 by omega), ix_none hz_15 (show mT u.1 < 2 ^ 31 by omega)] <;> rfl)
  · subst hr_2
    refine k_qn ?_
    refine lv_astore_nN (lv' := [(3, .null), (0, .ref (gL G 0)), (1, .int (x)), (2, .int (y))]) hx hb dX2_bring_5 rfl hl (by decide) rfl (fun ls hl => ?_)
    refine lv_aload_nN hx hb dX2_bring_6 rfl (lv_at hl 0 rfl) ?_
    refine lv_ifnullN (tgt := 21) hx hb dX2_bring_7 (by decide) ?_
    refine lv_bipush (v := -2) hx hb dX2_bring_21 (by decide) ?_
    exact k_reti X hr hlocks hP hS dX2_bring_23 (by simp only [pBring, ix_none hz_2 (show gn G < 2 ^ 31 by omega)] <;> rfl)

set_option maxHeartbeats 4000000 in
set_option maxRecDepth 100000 in
theorem m2_bringVote (l : Launch) (G : kG) (u : CS) (hL : lay G) (hk : okC G u) (hw0 : ∀ l v, l < 11 → mWy u.1 l v = false) (x y z : Int32) : KMi l G (AC G) (wC G) yX2_bringVote cX2_bringVote 5 (Option.some FieldType.int) ({ frames := 5, cells := 0, slots := 0, locals := 119 }) [.ref (gL G 0), .int (x), .int (y), .int (z)] u (fun r u' => pBringVote (gn G) u x y z = (r, u')) := by
  refine K_of (by decide) (Nat.le_of_ble_eq_true rfl) ?_
  intro p e s m below meth c X hr hlocks hnm hK hP ls hl
  have hx := X.1
  have hb := X.2.1
  have hown := X.2.2.2.1
  have hts := X.2.2.2.2
  have hS : va_S (AC G) s.heap s.heap [] := va_S.rf
  have hl : lv_has ls 5 [(0, .ref (gL G 0)), (1, .int (x)), (2, .int (y)), (3, .int (z))] := hl
  obtain ⟨kn4, kn10, kT1, kT61, kP40, kLd, kPar, kEp, kHt, kFc, kVf, kTp, kHf⟩ := id hk
  refine lv_aload_n hx hb dX2_bringVote_0 rfl (lv_at hl 0 rfl) ?_
  refine lv_iload_n hx hb dX2_bringVote_1 rfl (lv_at hl 3 rfl) ?_
  refine k_cq (k_runV (As := [.int (z)]) (rest := []) X hK hP (wC_g G u (k := 0) (by decide)) rfl (m2_nodeAt l G u hL (hk) z) ⟨rfl, rfl⟩ tw_1_165 tw_1_167 tw_0_0 tw_1_1 tw_1_168 ⟨by decide +kernel, by decide +kernel, (by decide +kernel : (parseMethodDescriptor yX2_nodeAt.desc).map (fun d => d.parameters.length) = some 1)⟩ ⟨Nat.le_of_ble_eq_true rfl, Nat.le_of_ble_eq_true rfl⟩ hl.1 rfl (Nat.le_of_ble_eq_true rfl) ⟨Nat.zero_le _, Nat.zero_le _⟩ dX2_bringVote_2) hS (fun r_2 u_2 H locs hq_2 hP hS => ?_)
  have hP := k_su hq_2.1 hP
  rcases hq_2.2 with ⟨j_2, hj_2, hx_2, hr_2⟩ | ⟨hz_2, hr_2⟩
  · subst hx_2
    subst hr_2
    refine k_qs ?_
    refine lv_astore (lv' := [(4, .ref (gL G (11 + 5 * j_2))), (0, .ref (gL G 0)), (1, .int (x)), (2, .int (y)), (3, .int (nI j_2))]) hx hb dX2_bringVote_5 hl (by decide) rfl (fun ls hl => ?_)
    refine lv_aload hx hb dX2_bringVote_7 (lv_at hl 0 rfl) ?_
    refine lv_ifnull hx hb dX2_bringVote_9 ?_
    refine lv_aload_n hx hb dX2_bringVote_12 rfl (lv_at hl 1 rfl) ?_
    refine lv_iload_n hx hb dX2_bringVote_13 rfl (lv_at hl 2 rfl) ?_
    refine k_cq (k_runV (As := [.int (x)]) (rest := []) X hK hP (wC_g G u (k := 0) (by decide)) rfl (m2_nodeAt l G u hL (hk) x) ⟨rfl, rfl⟩ tw_1_165 tw_1_167 tw_0_0 tw_1_1 tw_1_168 ⟨by decide +kernel, by decide +kernel, (by decide +kernel : (parseMethodDescriptor yX2_nodeAt.desc).map (fun d => d.parameters.length) = some 1)⟩ ⟨Nat.le_of_ble_eq_true rfl, Nat.le_of_ble_eq_true rfl⟩ hl.1 rfl (Nat.le_of_ble_eq_true rfl) ⟨Nat.zero_le _, Nat.zero_le _⟩ dX2_bringVote_14) hS (fun r_14 u_14 H locs hq_14 hP hS => ?_)
    have hP := k_su hq_14.1 hP
    rcases hq_14.2 with ⟨j_14, hj_14, hx_14, hr_14⟩ | ⟨hz_14, hr_14⟩
    · subst hx_14
      subst hr_14
      refine k_qs ?_
      refine lv_ifnull hx hb dX2_bringVote_17 ?_
      refine lv_aload_n hx hb dX2_bringVote_20 rfl (lv_at hl 1 rfl) ?_
      refine k_get (v := .ref (gL G 3)) X hK inX2 rfl hP (wC_g G u (k := 0) (by decide)) 0 (by decide) tw_1_139 rfl dX2_bringVote_21 ?_
      refine lv_iload_n hx hb dX2_bringVote_24 rfl (lv_at hl 3 rfl) ?_
      refine k_ci (k_runN (As := [.int (y)]) (rest := []) X hK hP (wC_g G u (k := 3) (by decide)) rfl (m0_exist l G u hL (hk) y) ⟨rfl, rfl⟩ ntw_2_24 tw_2_26 tw_0_18 tw_1_3 tw_2_27 ⟨by decide +kernel, by decide +kernel, (by decide +kernel : (parseMethodDescriptor yX0_exist.desc).map (fun d => d.parameters.length) = some 1)⟩ ⟨Nat.le_of_ble_eq_true rfl, Nat.le_of_ble_eq_true rfl⟩ hl.1 rfl (Nat.le_of_ble_eq_true rfl) ⟨Nat.zero_le _, Nat.zero_le _⟩ dX2_bringVote_25) hS (fun r_25 u_25 H locs hq_25 hP hS => ?_)
      have hP := k_su hq_25.1 hP
      rcases hq_25.2 with ⟨j_25, hj_25, hx_25, hr_25⟩ | ⟨hz_25, hr_25⟩
      · subst hx_25
        subst hr_25
        refine lv_if_ne (tgt := 34) hx hb dX2_bringVote_28 (by decide) (fun c_28 => ?_) (fun c_28 => ?_)
        · refine lv_aload hx hb dX2_bringVote_34 (lv_at hl 0 rfl) ?_
          refine k_gn (v := .ref (gL G (13 + 5 * j_2))) X hK inX1 rfl hP (wC_n0 G u hj_2) 8 (by decide) ntw_1_92 rfl dX2_bringVote_36 ?_
          refine lv_iload_n hx hb dX2_bringVote_39 rfl (lv_at hl 3 rfl) ?_
          refine k_ild (v := eI (vB (mWy u.1) j_25 j_2)) X hK hP (wC_n2 G u hj_2) (by omega) (by decide) rfl dX2_bringVote_40 ?_
          refine lv_i2l (v := (eI (vB (mWy u.1) j_25 j_2)).toInt64) hx hb dX2_bringVote_41 rfl ?_
          refine lv_iload_n hx hb dX2_bringVote_42 rfl (lv_at hl 2 rfl) ?_
          refine k_ci (k_runS (As := [.long ((eI (vB (mWy u.1) j_25 j_2)).toInt64), .int (nI j_14)]) (rest := []) X hK hP (m2_holds l G (AC G) (wC G) u ((eI (vB (mWy u.1) j_25 j_2)).toInt64) (k := j_14) (by omega)) ⟨rfl, rfl⟩ tw_1_235 tw_1_211 tw_1_1 tw_1_212 ⟨by decide +kernel, by decide +kernel, (by decide +kernel : (parseMethodDescriptor yX2_holds.desc).map (fun d => d.parameters.length) = some 2)⟩ ⟨Nat.le_of_ble_eq_true rfl, Nat.le_of_ble_eq_true rfl⟩ hl.1 rfl (Nat.le_of_ble_eq_true rfl) ⟨Nat.zero_le _, Nat.zero_le _⟩ dX2_bringVote_43) hS (fun r_43 u_43 H locs hq_43 hP hS => ?_)
          have hP := k_su hq_43.2 hP
          refine k_ti (y := bI (mWy u.1 (11 * j_25 + 1 + j_14) j_2)) (hq_43.1.trans (congrArg bI ((tL_wide _ (by omega)).trans ((tI_eI _ (by omega)).trans (by simp only [vB, decide_eq_true (show j_14 < 10 by omega), Bool.true_and]))))) ?_
          refine lv_if_ne (tgt := 52) hx hb dX2_bringVote_46 (by decide) (fun c_46 => ?_) (fun c_46 => ?_)
          · have c_46 : (mWy u.1 (11 * j_25 + 1 + j_14) j_2) = true := (bI_ne0 _).mp c_46
            have hb0 : 0 < j_25 := Nat.pos_of_ne_zero fun h => by
              rw [hw0 _ _ (by omega)] at c_46
              exact absurd c_46 (by decide)
            refine lv_aload_n hx hb dX2_bringVote_52 rfl (lv_at hl 1 rfl) ?_
            refine lv_aload hx hb dX2_bringVote_53 (lv_at hl 0 rfl) ?_
            refine lv_iload_n hx hb dX2_bringVote_55 rfl (lv_at hl 2 rfl) ?_
            refine lv_iload_n hx hb dX2_bringVote_56 rfl (lv_at hl 3 rfl) ?_
            refine k_cv (k_runV (As := [.ref (gL G (11 + 5 * j_2)), .int (nI j_14), .int (nI j_25)]) (rest := []) X hK hP (wC_g G u (k := 0) (by decide)) rfl (m2_letVoteCome l G u hL (hk) (v := j_2) hj_2 (b := j_25) (x := j_14) (by omega) (show j_25 < mT u.1 by omega) (by omega)) ⟨rfl, rfl⟩ tw_2_36 tw_2_38 tw_0_20 tw_1_1 tw_2_39 ⟨by decide +kernel, by decide +kernel, (by decide +kernel : (parseMethodDescriptor yX2_letVoteCome.desc).map (fun d => d.parameters.length) = some 3)⟩ ⟨Nat.le_of_ble_eq_true rfl, Nat.le_of_ble_eq_true rfl⟩ hl.1 rfl (Nat.le_of_ble_eq_true rfl) ⟨Nat.zero_le _, Nat.zero_le _⟩ dX2_bringVote_57) hS (fun u_57 H locs hq_57 hP hS => ?_)
            have hP := k_su hq_57 hP
            have ok_57 : okC G ((cLetV (gn G) u j_2 j_14 j_25)) := ok_letV (hk) (show j_25 < mT u.1 by omega)
            refine lv_iconst (v := nI 1) hx hb dX2_bringVote_60 (by decide) ?_
            exact k_reti X hr hlocks hP hS dX2_bringVote_61 (by simp only [pBringVote, ix_some hj_2 (show gn G < 2 ^ 31 by omega), ix_some hj_14 (show gn G < 2 ^ 31 by omega), ix_some hj_25 (show mT u.1 < 2 ^ 31 by omega)]; rw [if_pos c_46]; rfl)
          · have c_46 : (mWy u.1 (11 * j_25 + 1 + j_14) j_2) = false := (bI_eq0 _).mp c_46
            refine lv_bipush (v := -3) hx hb dX2_bringVote_49 (by decide) ?_
            exact k_reti X hr hlocks hP hS dX2_bringVote_51 (by simp only [pBringVote, ix_some hj_2 (show gn G < 2 ^ 31 by omega), ix_some hj_14 (show gn G < 2 ^ 31 by omega), ix_some hj_25 (show mT u.1 < 2 ^ 31 by omega)]; rw [if_neg (by rw [c_46]; decide)])
        · exact absurd c_28 (by decide)
      · subst hr_25
        refine lv_if_ne (tgt := 34) hx hb dX2_bringVote_28 (by decide) (fun c_28 => ?_) (fun c_28 => ?_)
        · exact absurd rfl c_28
        · refine lv_bipush (v := -2) hx hb dX2_bringVote_31 (by decide) ?_
          exact k_reti X hr hlocks hP hS dX2_bringVote_33 (by simp only [pBringVote, ix_some hj_2 (show gn G < 2 ^ 31 by omega), ix_some hj_14 (show gn G < 2 ^ 31 by omega), ix_none hz_25 (show mT u.1 < 2 ^ 31 by omega)] <;> rfl)
    · subst hr_14
      refine k_qn ?_
      refine lv_ifnullN (tgt := 31) hx hb dX2_bringVote_17 (by decide) ?_
      refine lv_bipush (v := -2) hx hb dX2_bringVote_31 (by decide) ?_
      exact k_reti X hr hlocks hP hS dX2_bringVote_33 (by simp only [pBringVote, ix_some hj_2 (show gn G < 2 ^ 31 by omega), ix_none hz_14 (show gn G < 2 ^ 31 by omega)] <;> rfl)
  · subst hr_2
    refine k_qn ?_
    refine lv_astoreN (lv' := [(4, .null), (0, .ref (gL G 0)), (1, .int (x)), (2, .int (y)), (3, .int (z))]) hx hb dX2_bringVote_5 hl (by decide) rfl (fun ls hl => ?_)
    refine lv_aloadN hx hb dX2_bringVote_7 (lv_at hl 0 rfl) ?_
    refine lv_ifnullN (tgt := 31) hx hb dX2_bringVote_9 (by decide) ?_
    refine lv_bipush (v := -2) hx hb dX2_bringVote_31 (by decide) ?_
    exact k_reti X hr hlocks hP hS dX2_bringVote_33 (by simp only [pBringVote, ix_none hz_2 (show gn G < 2 ^ 31 by omega)] <;> rfl)

set_option maxHeartbeats 4000000 in
set_option maxRecDepth 100000 in
theorem m2_flow (l : Launch) (G : kG) (u : CS) (hL : lay G) (hk : okC G u) (x : Int32) : KMi l G (AC G) (wC G) yX2_flow cX2_flow 3 (Option.some FieldType.int) ({ frames := 6, cells := 0, slots := 0, locals := 143 }) [.ref (gL G 0), .int (x)] u (fun r u' => pFlow (gn G) u x = (r, u')) := by
  refine K_of (by decide) (Nat.le_of_ble_eq_true rfl) ?_
  intro p e s m below meth c X hr hlocks hnm hK hP ls hl
  have hx := X.1
  have hb := X.2.1
  have hown := X.2.2.2.1
  have hts := X.2.2.2.2
  have hS : va_S (AC G) s.heap s.heap [] := va_S.rf
  have hl : lv_has ls 3 [(0, .ref (gL G 0)), (1, .int (x))] := hl
  obtain ⟨kn4, kn10, kT1, kT61, kP40, kLd, kPar, kEp, kHt, kFc, kVf, kTp, kHf⟩ := id hk
  refine lv_aload_n hx hb dX2_flow_0 rfl (lv_at hl 0 rfl) ?_
  refine lv_iload_n hx hb dX2_flow_1 rfl (lv_at hl 1 rfl) ?_
  refine k_cq (k_runV (As := [.int (x)]) (rest := []) X hK hP (wC_g G u (k := 0) (by decide)) rfl (m2_nodeAt l G u hL (hk) x) ⟨rfl, rfl⟩ tw_1_165 tw_1_167 tw_0_0 tw_1_1 tw_1_168 ⟨by decide +kernel, by decide +kernel, (by decide +kernel : (parseMethodDescriptor yX2_nodeAt.desc).map (fun d => d.parameters.length) = some 1)⟩ ⟨Nat.le_of_ble_eq_true rfl, Nat.le_of_ble_eq_true rfl⟩ hl.1 rfl (Nat.le_of_ble_eq_true rfl) ⟨Nat.zero_le _, Nat.zero_le _⟩ dX2_flow_2) hS (fun r_2 u_2 H locs hq_2 hP hS => ?_)
  have hP := k_su hq_2.1 hP
  rcases hq_2.2 with ⟨j_2, hj_2, hx_2, hr_2⟩ | ⟨hz_2, hr_2⟩
  · subst hx_2
    subst hr_2
    refine k_qs ?_
    refine lv_astore_n (lv' := [(2, .ref (gL G (11 + 5 * j_2))), (0, .ref (gL G 0)), (1, .int (nI j_2))]) hx hb dX2_flow_5 rfl hl (by decide) rfl (fun ls hl => ?_)
    refine lv_aload_n hx hb dX2_flow_6 rfl (lv_at hl 0 rfl) ?_
    refine lv_ifnonnull (tgt := 15) hx hb dX2_flow_7 (by decide) ?_
    refine lv_aload_n hx hb dX2_flow_15 rfl (lv_at hl 1 rfl) ?_
    refine lv_aload_n hx hb dX2_flow_16 rfl (lv_at hl 0 rfl) ?_
    refine k_ci (k_runV (As := [.ref (gL G (11 + 5 * j_2))]) (rest := []) X hK hP (wC_g G u (k := 0) (by decide)) rfl (m2_letAllCome l G u hL (hk) (v := j_2) hj_2) ⟨rfl, rfl⟩ tw_2_48 tw_2_50 tw_0_22 tw_1_1 tw_2_51 ⟨by decide +kernel, by decide +kernel, (by decide +kernel : (parseMethodDescriptor yX2_letAllCome.desc).map (fun d => d.parameters.length) = some 1)⟩ ⟨Nat.le_of_ble_eq_true rfl, Nat.le_of_ble_eq_true rfl⟩ hl.1 rfl (Nat.le_of_ble_eq_true rfl) ⟨Nat.zero_le _, Nat.zero_le _⟩ dX2_flow_17) hS (fun r_17 u_17 H locs hq_17 hP hS => ?_)
    have hP := k_su hq_17.2 hP
    refine k_ti hq_17.1 ?_
    have ok_17 : okC G ((cFlow (gn G) u j_2)) := ok_flow (hk) _
    exact k_reti X hr hlocks hP hS dX2_flow_20 (by simp only [pFlow, ix_some hj_2 (show gn G < 2 ^ 31 by omega)] <;> rfl)
  · subst hr_2
    refine k_qn ?_
    refine lv_astore_nN (lv' := [(2, .null), (0, .ref (gL G 0)), (1, .int (x))]) hx hb dX2_flow_5 rfl hl (by decide) rfl (fun ls hl => ?_)
    refine lv_aload_nN hx hb dX2_flow_6 rfl (lv_at hl 0 rfl) ?_
    refine lv_ifnonnullN hx hb dX2_flow_7 ?_
    refine lv_bipush (v := -2) hx hb dX2_flow_10 (by decide) ?_
    refine lv_goto (tgt := 20) hx hb dX2_flow_12 (by decide) ?_
    exact k_reti X hr hlocks hP hS dX2_flow_20 (by simp only [pFlow, ix_none hz_2 (show gn G < 2 ^ 31 by omega)] <;> rfl)
