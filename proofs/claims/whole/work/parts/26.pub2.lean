set_option maxHeartbeats 4000000 in
set_option maxRecDepth 100000 in
theorem m2_settle (l : Launch) (G : kG) (u : CS) (hL : lay G) (hk : okC G u) : KMi l G (AC G) (wC G) yX2_settle cX2_settle 7 (Option.some FieldType.int) ({ frames := 6, cells := 0, slots := 0, locals := 143 }) [.ref (gL G 0)] u (fun r u' => pSettle (gn G) u = (r, u')) := by
  refine K_of (by decide) (Nat.le_of_ble_eq_true rfl) ?_
  intro p e s m below meth c X hr hlocks hnm hK hP ls hl
  have hx := X.1
  have hb := X.2.1
  have hown := X.2.2.2.1
  have hts := X.2.2.2.2
  have hS : va_S (AC G) s.heap s.heap [] := va_S.rf
  have hl : lv_has ls 7 [(0, .ref (gL G 0))] := hl
  obtain ⟨kn4, kn10, kT1, kT61, kP40, kLd, kPar, kEp, kHt, kFc, kVf, kTp, kHf⟩ := id hk
  refine lv_aload_n hx hb dX2_settle_0 rfl (lv_at hl 0 rfl) ?_
  refine k_get (v := .int (nI (mC u.1))) X hK inX2 rfl hP (wC_g G u (k := 0) (by decide)) 5 (by decide) tw_1_144 rfl dX2_settle_1 ?_
  refine lv_istore_n (lv' := [(1, .int (nI (mC u.1))), (0, .ref (gL G 0))]) hx hb dX2_settle_4 rfl hl (by decide) rfl (fun ls hl => ?_)
  refine lv_iconst (v := nI 0) hx hb dX2_settle_5 (by decide) ?_
  refine lv_istore_n (lv' := [(2, .int (nI 0)), (1, .int (nI (mC u.1))), (0, .ref (gL G 0))]) hx hb dX2_settle_6 rfl hl (by decide) rfl (fun ls hl => ?_)
  have loop_7 : ∀ (d_7 : Nat) (i : Nat) (w : CS), 6601 - i = d_7 → (i ≤ 6601) → (w = stl (gn G) u i) → ∀ (H : Heap) (locs : List Loc) (ls : Array Slot), va_P (gD G) vwCl ((wC G) w) H → va_S (AC G) s.heap H locs → lv_has ls 7 [(0, .ref (gL G 0)), (1, .int (nI (mC u.1))), (2, .int (nI i))] → W p l e ({ frames := 6, cells := 0, slots := 0, locals := 143 } : Room) s m ([.ref (gL G 0)] : List Value).toArray below meth c H locs 0 0 (MQ below (va_Qi (fun r u' => pSettle (gn G) u = (r, u')) (KB G (wC G)) (AC G)) ([.ref (gL G 0)] : List Value).toArray s 0 0 (AC G)) (F0 m 7 ls []) := by
    intro d_7
    induction d_7 using Nat.strongRecOn with
    | ind d_7 ih_7 =>
      intro i w hd_7 hi hw H locs ls hP hS hl
      have hok : okC G w := by rw [hw]; exact ok_stl hk _
      have hwu := uwN_le w.1 (gn G) hok.2.2.2.1
      refine lv_iload_n hx hb dX2_settle_7 rfl (lv_at hl 2 rfl) ?_
      refine lv_sipush (v := nI 6600) hx hb dX2_settle_8 (by decide) ?_
      refine lv_icmp_gt (tgt := 65) hx hb dX2_settle_11 (by decide) (fun c_11 => ?_) (fun c_11 => ?_)
      · have c_11 : 6600 < i := cLt c_11 (by omega) (by omega)
        refine lv_aload_n hx hb dX2_settle_65 rfl (lv_at hl 0 rfl) ?_
        refine k_get (v := .int (nI (mC w.1))) X hK inX2 rfl hP (wC_g G w (k := 0) (by decide)) 5 (by decide) tw_1_144 rfl dX2_settle_66 ?_
        refine lv_iload_n hx hb dX2_settle_69 rfl (lv_at hl 1 rfl) ?_
        refine lv_isub hx hb dX2_settle_70 ?_
        exact k_reti X hr hlocks hP hS dX2_settle_71 (by rw [pSettle, show stl (gn G) u 6601 = w from by first | (rw [show (6601 : Nat) = i by omega]; exact hw.symm) | (have e := stl_stop (n := gn G) (u := u) (i := i) (by rw [← hw]; omega) (6601 - i); rw [show i + (6601 - i) = 6601 by omega, ← hw] at e; exact e)])
      · have c_11 : i ≤ 6600 := cNlt c_11 (by omega) (by omega)
        refine lv_aload_n hx hb dX2_settle_14 rfl (lv_at hl 0 rfl) ?_
        refine k_ci (k_runV (As := []) (rest := []) X hK hP (wC_g G w (k := 0) (by decide)) rfl (m2_lettersUnderWay l G w hL (hok)) ⟨rfl, rfl⟩ tw_2_56 tw_2_58 tw_0_23 tw_1_1 tw_2_59 ⟨by decide +kernel, by decide +kernel, (by decide +kernel : (parseMethodDescriptor yX2_lettersUnderWay.desc).map (fun d => d.parameters.length) = some 0)⟩ ⟨Nat.le_of_ble_eq_true rfl, Nat.le_of_ble_eq_true rfl⟩ hl.1 rfl (Nat.le_of_ble_eq_true rfl) ⟨Nat.zero_le _, Nat.zero_le _⟩ dX2_settle_15) hS (fun r_15 u_15 H locs hq_15 hP hS => ?_)
        have hP := k_su hq_15.2 hP
        refine k_ti hq_15.1 ?_
        refine lv_if_le (tgt := 65) hx hb dX2_settle_18 (by decide) (fun c_18 => ?_) (fun c_18 => ?_)
        · have c_18 : (uwN w.1 (gn G)) ≤ 0 := czLe c_18 (by omega) (by omega)
          refine lv_aload_n hx hb dX2_settle_65 rfl (lv_at hl 0 rfl) ?_
          refine k_get (v := .int (nI (mC w.1))) X hK inX2 rfl hP (wC_g G w (k := 0) (by decide)) 5 (by decide) tw_1_144 rfl dX2_settle_66 ?_
          refine lv_iload_n hx hb dX2_settle_69 rfl (lv_at hl 1 rfl) ?_
          refine lv_isub hx hb dX2_settle_70 ?_
          exact k_reti X hr hlocks hP hS dX2_settle_71 (by rw [pSettle, show stl (gn G) u 6601 = w from by first | (rw [show (6601 : Nat) = i by omega]; exact hw.symm) | (have e := stl_stop (n := gn G) (u := u) (i := i) (by rw [← hw]; omega) (6601 - i); rw [show i + (6601 - i) = 6601 by omega, ← hw] at e; exact e)])
        · have c_18 : 0 < (uwN w.1 (gn G)) := czNle c_18 (by omega) (by omega)
          refine lv_aload_n hx hb dX2_settle_21 rfl (lv_at hl 0 rfl) ?_
          refine k_get (v := .ref (gL G 1)) X hK inX2 rfl hP (wC_g G w (k := 0) (by decide)) 1 (by decide) tw_1_140 rfl dX2_settle_22 ?_
          refine lv_astore_n (lv' := [(3, .ref (gL G 1)), (0, .ref (gL G 0)), (1, .int (nI (mC u.1))), (2, .int (nI i))]) hx hb dX2_settle_25 rfl hl (by decide) rfl (fun ls hl => ?_)
          refine lv_aload_n hx hb dX2_settle_26 rfl (lv_at hl 0 rfl) ?_
          refine k_len X hK hP (wC_g G w (k := 1) (by decide)) dX2_settle_27 ?_
          refine lv_istore (lv' := [(4, .int (nI (gn G))), (3, .ref (gL G 1)), (0, .ref (gL G 0)), (1, .int (nI (mC u.1))), (2, .int (nI i))]) hx hb dX2_settle_28 hl (by decide) rfl (fun ls hl => ?_)
          refine lv_iconst (v := nI 0) hx hb dX2_settle_30 (by decide) ?_
          refine lv_istore (lv' := [(5, .int (nI 0)), (4, .int (nI (gn G))), (3, .ref (gL G 1)), (0, .ref (gL G 0)), (1, .int (nI (mC u.1))), (2, .int (nI i))]) hx hb dX2_settle_31 hl (by decide) rfl (fun ls hl => ?_)
          have loop_33 : ∀ (d_33 : Nat) (k : Nat) (w1 : CS), gn G - k = d_33 → (k ≤ gn G) → (w1 = rnd (gn G) w k) → ∀ (H : Heap) (locs : List Loc) (ls : Array Slot), va_P (gD G) vwCl ((wC G) w1) H → va_S (AC G) s.heap H locs → lv_has ls 7 [(0, .ref (gL G 0)), (1, .int (nI (mC u.1))), (2, .int (nI i)), (3, .ref (gL G 1)), (4, .int (nI (gn G))), (5, .int (nI k))] → W p l e ({ frames := 6, cells := 0, slots := 0, locals := 143 } : Room) s m ([.ref (gL G 0)] : List Value).toArray below meth c H locs 0 0 (MQ below (va_Qi (fun r u' => pSettle (gn G) u = (r, u')) (KB G (wC G)) (AC G)) ([.ref (gL G 0)] : List Value).toArray s 0 0 (AC G)) (F0 m 33 ls []) := by
            intro d_33
            induction d_33 using Nat.strongRecOn with
            | ind d_33 ih_33 =>
              intro k w1 hd_33 hkn hw1 H locs ls hP hS hl
              have hok1 : okC G w1 := by rw [hw1]; exact ok_rnd hok _
              refine lv_iload hx hb dX2_settle_33 (lv_at hl 5 rfl) ?_
              refine lv_iload hx hb dX2_settle_35 (lv_at hl 4 rfl) ?_
              refine lv_icmp_ge (tgt := 59) hx hb dX2_settle_37 (by decide) (fun c_37 => ?_) (fun c_37 => ?_)
              · have c_37 : (gn G) ≤ k := cLe c_37 (by omega) (by omega)
                refine lv_iinc (v := nI (i + 1)) (lv' := [(2, .int (nI (i + 1))), (0, .ref (gL G 0)), (1, .int (nI (mC u.1))), (3, .ref (gL G 1)), (4, .int (nI (gn G))), (5, .int (nI k))]) hx hb dX2_settle_59 hl (k := 2) rfl (nI_add i 1) (by decide) rfl (fun ls hl => ?_)
                refine lv_goto (tgt := 7) hx hb dX2_settle_62 (by decide) ?_
                exact ih_7 (6601 - (i + 1)) (by omega) (i + 1) w1 rfl (by omega) (by rw [stl, ← hw, if_neg (by omega), hw1, show k = gn G by omega]) _ _ _ hP hS (lv_sub hl [1, 2, 0] rfl)
              · have c_37 : k < (gn G) := cNle c_37 (by omega) (by omega)
                refine lv_aload_n hx hb dX2_settle_40 rfl (lv_at hl 3 rfl) ?_
                refine lv_iload hx hb dX2_settle_41 (lv_at hl 5 rfl) ?_
                refine k_ald (v := gL G (11 + 5 * k)) X hK hP (wC_g G w1 (k := 1) (by decide)) (by omega) (by omega) rfl dX2_settle_43 ?_
                refine lv_astore (lv' := [(6, .ref (gL G (11 + 5 * k))), (0, .ref (gL G 0)), (1, .int (nI (mC u.1))), (2, .int (nI i)), (3, .ref (gL G 1)), (4, .int (nI (gn G))), (5, .int (nI k))]) hx hb dX2_settle_44 hl (by decide) rfl (fun ls hl => ?_)
                refine lv_aload_n hx hb dX2_settle_46 rfl (lv_at hl 1 rfl) ?_
                refine lv_aload hx hb dX2_settle_47 (lv_at hl 0 rfl) ?_
                refine k_ci (k_runV (As := [.ref (gL G (11 + 5 * k))]) (rest := []) X hK hP (wC_g G w1 (k := 0) (by decide)) rfl (m2_letAllCome l G w1 hL (hok1) (v := k) (by omega)) ⟨rfl, rfl⟩ tw_2_48 tw_2_50 tw_0_22 tw_1_1 tw_2_51 ⟨by decide +kernel, by decide +kernel, (by decide +kernel : (parseMethodDescriptor yX2_letAllCome.desc).map (fun d => d.parameters.length) = some 1)⟩ ⟨Nat.le_of_ble_eq_true rfl, Nat.le_of_ble_eq_true rfl⟩ hl.1 rfl (Nat.le_of_ble_eq_true rfl) ⟨Nat.zero_le _, Nat.zero_le _⟩ dX2_settle_49) hS (fun r_49 u_49 H locs hq_49 hP hS => ?_)
                have hP := k_su hq_49.2 hP
                refine k_ti hq_49.1 ?_
                have ok_49 : okC G ((cFlow (gn G) w1 k)) := ok_flow (hok1) _
                refine lv_pop hx hb dX2_settle_52 rfl ?_
                refine lv_iinc (v := nI (k + 1)) (lv' := [(5, .int (nI (k + 1))), (6, .ref (gL G (11 + 5 * k))), (0, .ref (gL G 0)), (1, .int (nI (mC u.1))), (2, .int (nI i)), (3, .ref (gL G 1)), (4, .int (nI (gn G)))]) hx hb dX2_settle_53 hl (k := 6) rfl (nI_add k 1) (by decide) rfl (fun ls hl => ?_)
                refine lv_goto (tgt := 33) hx hb dX2_settle_56 (by decide) ?_
                exact ih_33 (gn G - (k + 1)) (by omega) (k + 1) ((cFlow (gn G) w1 k)) rfl (by omega) (by rw [rnd, ← hw1]) _ _ _ hP hS (lv_sub hl [2, 3, 4, 5, 6, 0] rfl)
          exact loop_33 _ 0 w rfl (Nat.zero_le _) (rfl) _ _ _ hP hS (lv_sub hl [3, 4, 5, 2, 1, 0] rfl)
  exact loop_7 _ 0 u rfl (Nat.zero_le _) (rfl) _ _ _ hP hS (lv_sub hl [2, 1, 0] rfl)

set_option maxHeartbeats 4000000 in
set_option maxRecDepth 100000 in
theorem m2_propose (l : Launch) (G : kG) (u : CS) (hL : lay G) (hk : okC G u) (x y z w t : Int32) : KMi l G (AC G) (wC G) yX2_propose cX2_propose 8 (Option.some FieldType.int) ({ frames := 4, cells := 0, slots := 0, locals := 93 }) [.ref (gL G 0), .int (x), .int (y), .int (z), .int (w), .int (t)] u (fun r u' => pPropose (gn G) u x y z w t = (r, u')) := by
  refine K_of (by decide) (Nat.le_of_ble_eq_true rfl) ?_
  intro p e s m below meth c X hr hlocks hnm hK hP ls hl
  have hx := X.1
  have hb := X.2.1
  have hown := X.2.2.2.1
  have hts := X.2.2.2.2
  have hS : va_S (AC G) s.heap s.heap [] := va_S.rf
  have hl : lv_has ls 8 [(0, .ref (gL G 0)), (1, .int (x)), (2, .int (y)), (3, .int (z)), (4, .int (w)), (5, .int (t))] := hl
  obtain ⟨kn4, kn10, kT1, kT61, kP40, kLd, kPar, kEp, kHt, kFc, kVf, kTp, kHf⟩ := id hk
  refine lv_aload_n hx hb dX2_propose_0 rfl (lv_at hl 0 rfl) ?_
  refine lv_iload_n hx hb dX2_propose_1 rfl (lv_at hl 1 rfl) ?_
  refine k_cq (k_runV (As := [.int (x)]) (rest := []) X hK hP (wC_g G u (k := 0) (by decide)) rfl (m2_nodeAt l G u hL (hk) x) ⟨rfl, rfl⟩ tw_1_165 tw_1_167 tw_0_0 tw_1_1 tw_1_168 ⟨by decide +kernel, by decide +kernel, (by decide +kernel : (parseMethodDescriptor yX2_nodeAt.desc).map (fun d => d.parameters.length) = some 1)⟩ ⟨Nat.le_of_ble_eq_true rfl, Nat.le_of_ble_eq_true rfl⟩ hl.1 rfl (Nat.le_of_ble_eq_true rfl) ⟨Nat.zero_le _, Nat.zero_le _⟩ dX2_propose_2) hS (fun r_2 u_2 H locs hq_2 hP hS => ?_)
  have hP := k_su hq_2.1 hP
  rcases hq_2.2 with ⟨j_2, hj_2, hx_2, hr_2⟩ | ⟨hz_2, hr_2⟩
  · subst hx_2
    subst hr_2
    refine k_qs ?_
    refine lv_astore (lv' := [(6, .ref (gL G (11 + 5 * j_2))), (0, .ref (gL G 0)), (1, .int (nI j_2)), (2, .int (y)), (3, .int (z)), (4, .int (w)), (5, .int (t))]) hx hb dX2_propose_5 hl (by decide) rfl (fun ls hl => ?_)
    refine lv_aload hx hb dX2_propose_7 (lv_at hl 0 rfl) ?_
    refine lv_ifnull hx hb dX2_propose_9 ?_
    refine lv_aload_n hx hb dX2_propose_12 rfl (lv_at hl 1 rfl) ?_
    refine k_get (v := .ref (gL G 3)) X hK inX2 rfl hP (wC_g G u (k := 0) (by decide)) 0 (by decide) tw_1_139 rfl dX2_propose_13 ?_
    refine lv_iload_n hx hb dX2_propose_16 rfl (lv_at hl 3 rfl) ?_
    refine k_ci (k_runN (As := [.int (y)]) (rest := []) X hK hP (wC_g G u (k := 3) (by decide)) rfl (m0_exist l G u hL (hk) y) ⟨rfl, rfl⟩ ntw_2_24 tw_2_26 tw_0_18 tw_1_3 tw_2_27 ⟨by decide +kernel, by decide +kernel, (by decide +kernel : (parseMethodDescriptor yX0_exist.desc).map (fun d => d.parameters.length) = some 1)⟩ ⟨Nat.le_of_ble_eq_true rfl, Nat.le_of_ble_eq_true rfl⟩ hl.1 rfl (Nat.le_of_ble_eq_true rfl) ⟨Nat.zero_le _, Nat.zero_le _⟩ dX2_propose_17) hS (fun r_17 u_17 H locs hq_17 hP hS => ?_)
    have hP := k_su hq_17.1 hP
    rcases hq_17.2 with ⟨j_17, hj_17, hx_17, hr_17⟩ | ⟨hz_17, hr_17⟩
    · subst hx_17
      subst hr_17
      refine lv_if_eq (tgt := 39) hx hb dX2_propose_20 (by decide) (fun c_20 => ?_) (fun c_20 => ?_)
      · exact absurd c_20 (by decide)
      · refine lv_iload_n hx hb dX2_propose_23 rfl (lv_at hl 4 rfl) ?_
        refine k_ci (k_runS (As := [.int (z)]) (rest := []) X hK hP (m2_isEpoch l G (AC G) (wC G) u z) ⟨rfl, rfl⟩ tw_1_162 tw_1_163 tw_1_1 tw_1_164 ⟨by decide +kernel, by decide +kernel, (by decide +kernel : (parseMethodDescriptor yX2_isEpoch.desc).map (fun d => d.parameters.length) = some 1)⟩ ⟨Nat.le_of_ble_eq_true rfl, Nat.le_of_ble_eq_true rfl⟩ hl.1 rfl (Nat.le_of_ble_eq_true rfl) ⟨Nat.zero_le _, Nat.zero_le _⟩ dX2_propose_24) hS (fun r_24 u_24 H locs hq_24 hP hS => ?_)
        have hP := k_su hq_24.1 hP
        rcases hq_24.2 with ⟨j_24, hj_24, hx_24, hr_24⟩ | ⟨hz_24, hr_24⟩
        · subst hx_24
          subst hr_24
          refine lv_if_eq (tgt := 39) hx hb dX2_propose_27 (by decide) (fun c_27 => ?_) (fun c_27 => ?_)
          · exact absurd c_27 (by decide)
          · refine lv_aload_n hx hb dX2_propose_30 rfl (lv_at hl 1 rfl) ?_
            refine lv_iload hx hb dX2_propose_31 (lv_at hl 6 rfl) ?_
            refine k_ci (k_runV (As := [.int (t)]) (rest := []) X hK hP (wC_g G u (k := 0) (by decide)) rfl (m2_areNodes l G u hL (hk) t) ⟨rfl, rfl⟩ tw_2_71 tw_2_73 tw_0_24 tw_1_1 tw_2_74 ⟨by decide +kernel, by decide +kernel, (by decide +kernel : (parseMethodDescriptor yX2_areNodes.desc).map (fun d => d.parameters.length) = some 1)⟩ ⟨Nat.le_of_ble_eq_true rfl, Nat.le_of_ble_eq_true rfl⟩ hl.1 rfl (Nat.le_of_ble_eq_true rfl) ⟨Nat.zero_le _, Nat.zero_le _⟩ dX2_propose_33) hS (fun r_33 u_33 H locs hq_33 hP hS => ?_)
            have hP := k_su hq_33.1 hP
            rcases hq_33.2 with ⟨hz_33, hr_33⟩ | ⟨hz_33, hr_33⟩
            · subst hr_33
              refine lv_if_ne (tgt := 42) hx hb dX2_propose_36 (by decide) (fun c_36 => ?_) (fun c_36 => ?_)
              · refine lv_aload hx hb dX2_propose_42 (lv_at hl 0 rfl) ?_
                refine k_gn (v := .int (bI ((mFa u.1) j_2))) X hK inX1 rfl hP (wC_n0 G u hj_2) 3 (by decide) ntw_1_83 rfl dX2_propose_44 ?_
                refine lv_if_eq (tgt := 60) hx hb dX2_propose_47 (by decide) (fun c_47 => ?_) (fun c_47 => ?_)
                · have c_47 : ((mFa u.1) j_2) = false := (bI_eq0 _).mp c_47
                  refine lv_bipush (v := -3) hx hb dX2_propose_60 (by decide) ?_
                  exact k_reti X hr hlocks hP hS dX2_propose_62 (by simp only [pPropose, ix_some hj_2 (show gn G < 2 ^ 31 by omega), ix_some hj_17 (show mT u.1 < 2 ^ 31 by omega), ixE_some hj_24, if_pos hz_33]; rw [if_pos (by first | (simp [c_47]; done) | (simp [c_57]; done))])
                · have c_47 : ((mFa u.1) j_2) = true := (bI_ne0 _).mp c_47
                  refine lv_aload_n hx hb dX2_propose_50 rfl (lv_at hl 1 rfl) ?_
                  refine k_get (v := .ref (gL G 2)) X hK inX2 rfl hP (wC_g G u (k := 0) (by decide)) 2 (by decide) tw_1_141 rfl dX2_propose_51 ?_
                  refine lv_iload_n hx hb dX2_propose_54 rfl (lv_at hl 4 rfl) ?_
                  refine k_ild (v := nI (mLd u.1 j_24)) X hK hP (wC_g G u (k := 2) (by decide)) (by omega) (by decide) rfl dX2_propose_55 ?_
                  have hLd1 := kLd j_24
                  refine lv_iload_n hx hb dX2_propose_56 rfl (lv_at hl 2 rfl) ?_
                  refine lv_icmp_eq (tgt := 63) hx hb dX2_propose_57 (by decide) (fun c_57 => ?_) (fun c_57 => ?_)
                  · have c_57 : (mLd u.1 j_24) = j_2 := cEq c_57 (by omega) (by omega)
                    refine lv_aload_n hx hb dX2_propose_63 rfl (lv_at hl 1 rfl) ?_
                    refine k_get (v := .ref (gL G 3)) X hK inX2 rfl hP (wC_g G u (k := 0) (by decide)) 0 (by decide) tw_1_139 rfl dX2_propose_64 ?_
                    refine k_ci (k_runN (As := []) (rest := []) X hK hP (wC_g G u (k := 3) (by decide)) rfl (m0_haveRoom l G u hL (hk)) ⟨rfl, rfl⟩ ntw_1_185 tw_1_187 tw_0_2 tw_1_3 tw_1_188 ⟨by decide +kernel, by decide +kernel, (by decide +kernel : (parseMethodDescriptor yX0_haveRoom.desc).map (fun d => d.parameters.length) = some 0)⟩ ⟨Nat.le_of_ble_eq_true rfl, Nat.le_of_ble_eq_true rfl⟩ hl.1 rfl (Nat.le_of_ble_eq_true rfl) ⟨Nat.zero_le _, Nat.zero_le _⟩ dX2_propose_67) hS (fun r_67 u_67 H locs hq_67 hP hS => ?_)
                    have hP := k_su hq_67.2 hP
                    refine k_ti hq_67.1 ?_
                    refine lv_if_ne (tgt := 76) hx hb dX2_propose_70 (by decide) (fun c_70 => ?_) (fun c_70 => ?_)
                    · have c_70 : (decide (mT u.1 ≤ 60)) = true := (bI_ne0 _).mp c_70
                      have hT60 : mT u.1 ≤ 60 := of_decide_eq_true c_70
                      refine lv_aload_n hx hb dX2_propose_76 rfl (lv_at hl 1 rfl) ?_
                      refine k_get (v := .ref (gL G 3)) X hK inX2 rfl hP (wC_g G u (k := 0) (by decide)) 0 (by decide) tw_1_139 rfl dX2_propose_77 ?_
                      refine lv_iload_n hx hb dX2_propose_80 rfl (lv_at hl 3 rfl) ?_
                      refine lv_iload_n hx hb dX2_propose_81 rfl (lv_at hl 4 rfl) ?_
                      refine lv_iload hx hb dX2_propose_82 (lv_at hl 5 rfl) ?_
                      refine lv_iload_n hx hb dX2_propose_84 rfl (lv_at hl 2 rfl) ?_
                      refine k_ci (k_runN (As := [.int (nI j_17), .int (nI j_24), .int (w), .int (nI j_2)]) (rest := []) X hK hP (wC_g G u (k := 3) (by decide)) rfl (m0_make l G u hL (hk) (o := j_17) (e0 := j_24) (v := j_2) (by omega) (by omega) (by omega) w) ⟨rfl, rfl⟩ ntw_1_193 tw_1_195 tw_0_4 tw_1_3 tw_1_196 ⟨by decide +kernel, by decide +kernel, (by decide +kernel : (parseMethodDescriptor yX0_make.desc).map (fun d => d.parameters.length) = some 4)⟩ ⟨Nat.le_of_ble_eq_true rfl, Nat.le_of_ble_eq_true rfl⟩ hl.1 rfl (Nat.le_of_ble_eq_true rfl) ⟨Nat.zero_le _, Nat.zero_le _⟩ dX2_propose_85) hS (fun r_85 u_85 H locs hq_85 hP hS => ?_)
                      have hP := k_su hq_85.2 hP
                      refine k_ti hq_85.1 ?_
                      have ok_85 : okC G ((cMake u j_17 j_24 w j_2)) := ok_make (hk) _ (by omega) (by omega) (by omega)
                      refine lv_istore (lv' := [(7, .int (nI (mT u.1))), (6, .ref (gL G (11 + 5 * j_2))), (0, .ref (gL G 0)), (1, .int (nI j_2)), (2, .int (nI j_17)), (3, .int (nI j_24)), (4, .int (w)), (5, .int (t))]) hx hb dX2_propose_88 hl (by decide) rfl (fun ls hl => ?_)
                      refine lv_aload_n hx hb dX2_propose_90 rfl (lv_at hl 2 rfl) ?_
                      refine lv_aload hx hb dX2_propose_91 (lv_at hl 1 rfl) ?_
                      refine lv_iload hx hb dX2_propose_93 (lv_at hl 0 rfl) ?_
                      refine k_cv (k_runV (As := [.ref (gL G (11 + 5 * j_2)), .int (nI (mT u.1))]) (rest := []) X hK hP (wC_g G ((cMake u j_17 j_24 w j_2)) (k := 0) (by decide)) rfl (m2_takeProposal l G ((cMake u j_17 j_24 w j_2)) hL (ok_85) (v := j_2) hj_2 (b := (mT u.1)) (by omega) (show mT u.1 < mT u.1 + 1 by omega)) ⟨rfl, rfl⟩ tw_1_197 tw_1_199 tw_0_5 tw_1_1 tw_1_200 ⟨by decide +kernel, by decide +kernel, (by decide +kernel : (parseMethodDescriptor yX2_takeProposal.desc).map (fun d => d.parameters.length) = some 2)⟩ ⟨Nat.le_of_ble_eq_true rfl, Nat.le_of_ble_eq_true rfl⟩ hl.1 rfl (Nat.le_of_ble_eq_true rfl) ⟨Nat.zero_le _, Nat.zero_le _⟩ dX2_propose_95) hS (fun u_95 H locs hq_95 hP hS => ?_)
                      have hP := k_su hq_95 hP
                      have ok_95 : okC G ((cTakeP (gn G) ((cMake u j_17 j_24 w j_2)) j_2 (mT u.1))) := ok_takeP (ok_85) (show mT u.1 < mT u.1 + 1 by omega)
                      refine lv_aload_n hx hb dX2_propose_98 rfl (lv_at hl 2 rfl) ?_
                      refine lv_iload hx hb dX2_propose_99 (lv_at hl 0 rfl) ?_
                      refine lv_iload hx hb dX2_propose_101 (lv_at hl 7 rfl) ?_
                      refine k_ci (k_runV (As := [.int (nI (mT u.1)), .int (t)]) (rest := []) X hK hP (wC_g G ((cTakeP (gn G) ((cMake u j_17 j_24 w j_2)) j_2 (mT u.1))) (k := 0) (by decide)) rfl (m2_sendProposal l G ((cTakeP (gn G) ((cMake u j_17 j_24 w j_2)) j_2 (mT u.1))) hL (ok_95) (b := (mT u.1)) (by omega) t) ⟨rfl, rfl⟩ tw_1_231 tw_1_233 tw_0_11 tw_1_1 tw_1_234 ⟨by decide +kernel, by decide +kernel, (by decide +kernel : (parseMethodDescriptor yX2_sendProposal.desc).map (fun d => d.parameters.length) = some 2)⟩ ⟨Nat.le_of_ble_eq_true rfl, Nat.le_of_ble_eq_true rfl⟩ hl.1 rfl (Nat.le_of_ble_eq_true rfl) ⟨Nat.zero_le _, Nat.zero_le _⟩ dX2_propose_103) hS (fun r_103 u_103 H locs hq_103 hP hS => ?_)
                      have hP := k_su hq_103.2 hP
                      refine k_ti hq_103.1 ?_
                      have ok_103 : okC G ((sndM ((cTakeP (gn G) ((cMake u j_17 j_24 w j_2)) j_2 (mT u.1))).1 (11 * (mT u.1)) t (gn G), ((cTakeP (gn G) ((cMake u j_17 j_24 w j_2)) j_2 (mT u.1))).2)) := ok_snd (ok_95) _ _ _
                      refine lv_pop hx hb dX2_propose_106 rfl ?_
                      refine lv_iload hx hb dX2_propose_107 (lv_at hl 0 rfl) ?_
                      exact k_reti X hr hlocks hP hS dX2_propose_109 (by simp only [pPropose, ix_some hj_2 (show gn G < 2 ^ 31 by omega), ix_some hj_17 (show mT u.1 < 2 ^ 31 by omega), ixE_some hj_24, if_pos hz_33]; rw [if_neg (by simp [c_47, c_57]), if_neg (by rw [c_70]; decide)])
                    · have c_70 : (decide (mT u.1 ≤ 60)) = false := (bI_eq0 _).mp c_70
                      refine lv_bipush (v := -4) hx hb dX2_propose_73 (by decide) ?_
                      exact k_reti X hr hlocks hP hS dX2_propose_75 (by simp only [pPropose, ix_some hj_2 (show gn G < 2 ^ 31 by omega), ix_some hj_17 (show mT u.1 < 2 ^ 31 by omega), ixE_some hj_24, if_pos hz_33]; rw [if_neg (by simp [c_47, c_57]), if_pos (by rw [c_70]; rfl)])
                  · have c_57 : (mLd u.1 j_24) ≠ j_2 := cNe c_57 (by omega) (by omega)
                    refine lv_bipush (v := -3) hx hb dX2_propose_60 (by decide) ?_
                    exact k_reti X hr hlocks hP hS dX2_propose_62 (by simp only [pPropose, ix_some hj_2 (show gn G < 2 ^ 31 by omega), ix_some hj_17 (show mT u.1 < 2 ^ 31 by omega), ixE_some hj_24, if_pos hz_33]; rw [if_pos (by first | (simp [c_47]; done) | (simp [c_57]; done))])
              · exact absurd c_36 (by decide)
            · subst hr_33
              refine lv_if_ne (tgt := 42) hx hb dX2_propose_36 (by decide) (fun c_36 => ?_) (fun c_36 => ?_)
              · exact absurd rfl c_36
              · refine lv_bipush (v := -2) hx hb dX2_propose_39 (by decide) ?_
                exact k_reti X hr hlocks hP hS dX2_propose_41 (by simp only [pPropose, ix_some hj_2 (show gn G < 2 ^ 31 by omega), ix_some hj_17 (show mT u.1 < 2 ^ 31 by omega), ixE_some hj_24, if_neg hz_33] <;> rfl)
        · subst hr_24
          refine lv_if_eq (tgt := 39) hx hb dX2_propose_27 (by decide) (fun c_27 => ?_) (fun c_27 => ?_)
          · refine lv_bipush (v := -2) hx hb dX2_propose_39 (by decide) ?_
            exact k_reti X hr hlocks hP hS dX2_propose_41 (by simp only [pPropose, ix_some hj_2 (show gn G < 2 ^ 31 by omega), ix_some hj_17 (show mT u.1 < 2 ^ 31 by omega), ixE_none hz_24] <;> rfl)
          · exact absurd rfl c_27
    · subst hr_17
      refine lv_if_eq (tgt := 39) hx hb dX2_propose_20 (by decide) (fun c_20 => ?_) (fun c_20 => ?_)
      · refine lv_bipush (v := -2) hx hb dX2_propose_39 (by decide) ?_
        exact k_reti X hr hlocks hP hS dX2_propose_41 (by simp only [pPropose, ix_some hj_2 (show gn G < 2 ^ 31 by omega), ix_none hz_17 (show mT u.1 < 2 ^ 31 by omega)] <;> rfl)
      · exact absurd rfl c_20
  · subst hr_2
    refine k_qn ?_
    refine lv_astoreN (lv' := [(6, .null), (0, .ref (gL G 0)), (1, .int (x)), (2, .int (y)), (3, .int (z)), (4, .int (w)), (5, .int (t))]) hx hb dX2_propose_5 hl (by decide) rfl (fun ls hl => ?_)
    refine lv_aloadN hx hb dX2_propose_7 (lv_at hl 0 rfl) ?_
    refine lv_ifnullN (tgt := 39) hx hb dX2_propose_9 (by decide) ?_
    refine lv_bipush (v := -2) hx hb dX2_propose_39 (by decide) ?_
    exact k_reti X hr hlocks hP hS dX2_propose_41 (by simp only [pPropose, ix_none hz_2 (show gn G < 2 ^ 31 by omega)] <;> rfl)

set_option maxHeartbeats 4000000 in
set_option maxRecDepth 100000 in
theorem m2_lie (l : Launch) (G : kG) (u : CS) (hL : lay G) (hk : okC G u) (x y t : Int32) : KMi l G (AC G) (wC G) yX2_lie cX2_lie 5 (Option.some FieldType.int) ({ frames := 4, cells := 0, slots := 0, locals := 96 }) [.ref (gL G 0), .int (x), .int (y), .int (t)] u (fun r u' => pLie (gn G) u x y t = (r, u')) := by
  refine K_of (by decide) (Nat.le_of_ble_eq_true rfl) ?_
  intro p e s m below meth c X hr hlocks hnm hK hP ls hl
  have hx := X.1
  have hb := X.2.1
  have hown := X.2.2.2.1
  have hts := X.2.2.2.2
  have hS : va_S (AC G) s.heap s.heap [] := va_S.rf
  have hl : lv_has ls 5 [(0, .ref (gL G 0)), (1, .int (x)), (2, .int (y)), (3, .int (t))] := hl
  obtain ⟨kn4, kn10, kT1, kT61, kP40, kLd, kPar, kEp, kHt, kFc, kVf, kTp, kHf⟩ := id hk
  refine lv_aload_n hx hb dX2_lie_0 rfl (lv_at hl 0 rfl) ?_
  refine lv_iload_n hx hb dX2_lie_1 rfl (lv_at hl 1 rfl) ?_
  refine k_cq (k_runV (As := [.int (x)]) (rest := []) X hK hP (wC_g G u (k := 0) (by decide)) rfl (m2_nodeAt l G u hL (hk) x) ⟨rfl, rfl⟩ tw_1_165 tw_1_167 tw_0_0 tw_1_1 tw_1_168 ⟨by decide +kernel, by decide +kernel, (by decide +kernel : (parseMethodDescriptor yX2_nodeAt.desc).map (fun d => d.parameters.length) = some 1)⟩ ⟨Nat.le_of_ble_eq_true rfl, Nat.le_of_ble_eq_true rfl⟩ hl.1 rfl (Nat.le_of_ble_eq_true rfl) ⟨Nat.zero_le _, Nat.zero_le _⟩ dX2_lie_2) hS (fun r_2 u_2 H locs hq_2 hP hS => ?_)
  have hP := k_su hq_2.1 hP
  rcases hq_2.2 with ⟨j_2, hj_2, hx_2, hr_2⟩ | ⟨hz_2, hr_2⟩
  · subst hx_2
    subst hr_2
    refine k_qs ?_
    refine lv_astore (lv' := [(4, .ref (gL G (11 + 5 * j_2))), (0, .ref (gL G 0)), (1, .int (nI j_2)), (2, .int (y)), (3, .int (t))]) hx hb dX2_lie_5 hl (by decide) rfl (fun ls hl => ?_)
    refine lv_aload hx hb dX2_lie_7 (lv_at hl 0 rfl) ?_
    refine lv_ifnull hx hb dX2_lie_9 ?_
    refine lv_iload_n hx hb dX2_lie_12 rfl (lv_at hl 3 rfl) ?_
    refine lv_if_eq (tgt := 35) hx hb dX2_lie_13 (by decide) (fun c_13 => ?_) (fun c_13 => ?_)
    · refine lv_bipush (v := -2) hx hb dX2_lie_35 (by decide) ?_
      exact k_reti X hr hlocks hP hS dX2_lie_37 (by simp only [pLie, ix_some hj_2 (show gn G < 2 ^ 31 by omega), if_pos c_13] <;> rfl)
    · refine lv_aload_n hx hb dX2_lie_16 rfl (lv_at hl 1 rfl) ?_
      refine k_get (v := .ref (gL G 3)) X hK inX2 rfl hP (wC_g G u (k := 0) (by decide)) 0 (by decide) tw_1_139 rfl dX2_lie_17 ?_
      refine lv_iload_n hx hb dX2_lie_20 rfl (lv_at hl 3 rfl) ?_
      refine k_ci (k_runN (As := [.int (y)]) (rest := []) X hK hP (wC_g G u (k := 3) (by decide)) rfl (m0_exist l G u hL (hk) y) ⟨rfl, rfl⟩ ntw_2_24 tw_2_26 tw_0_18 tw_1_3 tw_2_27 ⟨by decide +kernel, by decide +kernel, (by decide +kernel : (parseMethodDescriptor yX0_exist.desc).map (fun d => d.parameters.length) = some 1)⟩ ⟨Nat.le_of_ble_eq_true rfl, Nat.le_of_ble_eq_true rfl⟩ hl.1 rfl (Nat.le_of_ble_eq_true rfl) ⟨Nat.zero_le _, Nat.zero_le _⟩ dX2_lie_21) hS (fun r_21 u_21 H locs hq_21 hP hS => ?_)
      have hP := k_su hq_21.1 hP
      rcases hq_21.2 with ⟨j_21, hj_21, hx_21, hr_21⟩ | ⟨hz_21, hr_21⟩
      · subst hx_21
        subst hr_21
        refine lv_if_eq (tgt := 35) hx hb dX2_lie_24 (by decide) (fun c_24 => ?_) (fun c_24 => ?_)
        · exact absurd c_24 (by decide)
        · refine lv_aload_n hx hb dX2_lie_27 rfl (lv_at hl 1 rfl) ?_
          refine lv_iload_n hx hb dX2_lie_28 rfl (lv_at hl 4 rfl) ?_
          refine k_ci (k_runV (As := [.int (t)]) (rest := []) X hK hP (wC_g G u (k := 0) (by decide)) rfl (m2_areNodes l G u hL (hk) t) ⟨rfl, rfl⟩ tw_2_71 tw_2_73 tw_0_24 tw_1_1 tw_2_74 ⟨by decide +kernel, by decide +kernel, (by decide +kernel : (parseMethodDescriptor yX2_areNodes.desc).map (fun d => d.parameters.length) = some 1)⟩ ⟨Nat.le_of_ble_eq_true rfl, Nat.le_of_ble_eq_true rfl⟩ hl.1 rfl (Nat.le_of_ble_eq_true rfl) ⟨Nat.zero_le _, Nat.zero_le _⟩ dX2_lie_29) hS (fun r_29 u_29 H locs hq_29 hP hS => ?_)
          have hP := k_su hq_29.1 hP
          rcases hq_29.2 with ⟨hz_29, hr_29⟩ | ⟨hz_29, hr_29⟩
          · subst hr_29
            refine lv_if_ne (tgt := 38) hx hb dX2_lie_32 (by decide) (fun c_32 => ?_) (fun c_32 => ?_)
            · refine lv_aload hx hb dX2_lie_38 (lv_at hl 0 rfl) ?_
              refine k_gn (v := .int (bI ((mFa u.1) j_2))) X hK inX1 rfl hP (wC_n0 G u hj_2) 3 (by decide) ntw_1_83 rfl dX2_lie_40 ?_
              refine lv_if_ne (tgt := 49) hx hb dX2_lie_43 (by decide) (fun c_43 => ?_) (fun c_43 => ?_)
              · have c_43 : ((mFa u.1) j_2) = true := (bI_ne0 _).mp c_43
                have hy0 : j_21 ≠ 0 := fun h => c_13 (by rw [h]; rfl)
                refine lv_aload_n hx hb dX2_lie_49 rfl (lv_at hl 1 rfl) ?_
                refine lv_aload hx hb dX2_lie_50 (lv_at hl 0 rfl) ?_
                refine lv_iload_n hx hb dX2_lie_52 rfl (lv_at hl 2 rfl) ?_
                refine lv_iload_n hx hb dX2_lie_53 rfl (lv_at hl 3 rfl) ?_
                refine k_cv (k_runV (As := [.ref (gL G (11 + 5 * j_2)), .int (nI j_2), .int (nI j_21)]) (rest := []) X hK hP (wC_g G u (k := 0) (by decide)) rfl (m2_takeVote l G u hL (hk) (v := j_2) hj_2 (b := j_21) (x := j_2) (by omega) (show j_21 < mT u.1 by omega) (by omega)) ⟨rfl, rfl⟩ tw_2_40 tw_2_42 tw_0_21 tw_1_1 tw_2_43 ⟨by decide +kernel, by decide +kernel, (by decide +kernel : (parseMethodDescriptor yX2_takeVote.desc).map (fun d => d.parameters.length) = some 3)⟩ ⟨Nat.le_of_ble_eq_true rfl, Nat.le_of_ble_eq_true rfl⟩ hl.1 rfl (Nat.le_of_ble_eq_true rfl) ⟨Nat.zero_le _, Nat.zero_le _⟩ dX2_lie_54) hS (fun u_54 H locs hq_54 hP hS => ?_)
                have hP := k_su hq_54 hP
                have ok_54 : okC G ((cTakeV (gn G) u j_2 j_2 j_21)) := ok_takeV (hk) (show j_21 < mT u.1 by omega)
                refine lv_aload_n hx hb dX2_lie_57 rfl (lv_at hl 1 rfl) ?_
                refine lv_iload_n hx hb dX2_lie_58 rfl (lv_at hl 2 rfl) ?_
                refine lv_iload_n hx hb dX2_lie_59 rfl (lv_at hl 3 rfl) ?_
                refine lv_iload_n hx hb dX2_lie_60 rfl (lv_at hl 4 rfl) ?_
                refine k_ci (k_runV (As := [.int (nI j_2), .int (nI j_21), .int (t)]) (rest := []) X hK hP (wC_g G ((cTakeV (gn G) u j_2 j_2 j_21)) (k := 0) (by decide)) rfl (m2_sendVote l G ((cTakeV (gn G) u j_2 j_2 j_21)) hL (ok_54) (b := j_21) (x := j_2) (by omega) (by omega) t) ⟨rfl, rfl⟩ tw_2_12 tw_2_14 tw_0_16 tw_1_1 tw_2_15 ⟨by decide +kernel, by decide +kernel, (by decide +kernel : (parseMethodDescriptor yX2_sendVote.desc).map (fun d => d.parameters.length) = some 3)⟩ ⟨Nat.le_of_ble_eq_true rfl, Nat.le_of_ble_eq_true rfl⟩ hl.1 rfl (Nat.le_of_ble_eq_true rfl) ⟨Nat.zero_le _, Nat.zero_le _⟩ dX2_lie_61) hS (fun r_61 u_61 H locs hq_61 hP hS => ?_)
                have hP := k_su hq_61.2 hP
                refine k_ti hq_61.1 ?_
                have ok_61 : okC G ((sndM ((cTakeV (gn G) u j_2 j_2 j_21)).1 (11 * j_21 + 1 + j_2) t (gn G), ((cTakeV (gn G) u j_2 j_2 j_21)).2)) := ok_snd (ok_54) _ _ _
                exact k_reti X hr hlocks hP hS dX2_lie_64 (by simp only [pLie, ix_some hj_2 (show gn G < 2 ^ 31 by omega), if_neg c_13, ix_some hj_21 (show mT u.1 < 2 ^ 31 by omega), if_pos hz_29]; rw [if_neg (by rw [c_43]; decide)])
              · have c_43 : ((mFa u.1) j_2) = false := (bI_eq0 _).mp c_43
                refine lv_bipush (v := -3) hx hb dX2_lie_46 (by decide) ?_
                exact k_reti X hr hlocks hP hS dX2_lie_48 (by simp only [pLie, ix_some hj_2 (show gn G < 2 ^ 31 by omega), if_neg c_13, ix_some hj_21 (show mT u.1 < 2 ^ 31 by omega), if_pos hz_29]; rw [if_pos (by rw [c_43]; rfl)])
            · exact absurd c_32 (by decide)
          · subst hr_29
            refine lv_if_ne (tgt := 38) hx hb dX2_lie_32 (by decide) (fun c_32 => ?_) (fun c_32 => ?_)
            · exact absurd rfl c_32
            · refine lv_bipush (v := -2) hx hb dX2_lie_35 (by decide) ?_
              exact k_reti X hr hlocks hP hS dX2_lie_37 (by simp only [pLie, ix_some hj_2 (show gn G < 2 ^ 31 by omega), if_neg c_13, ix_some hj_21 (show mT u.1 < 2 ^ 31 by omega), if_neg hz_29] <;> rfl)
      · subst hr_21
        refine lv_if_eq (tgt := 35) hx hb dX2_lie_24 (by decide) (fun c_24 => ?_) (fun c_24 => ?_)
        · refine lv_bipush (v := -2) hx hb dX2_lie_35 (by decide) ?_
          exact k_reti X hr hlocks hP hS dX2_lie_37 (by simp only [pLie, ix_some hj_2 (show gn G < 2 ^ 31 by omega), if_neg c_13, ix_none hz_21 (show mT u.1 < 2 ^ 31 by omega)] <;> rfl)
        · exact absurd rfl c_24
  · subst hr_2
    refine k_qn ?_
    refine lv_astoreN (lv' := [(4, .null), (0, .ref (gL G 0)), (1, .int (x)), (2, .int (y)), (3, .int (t))]) hx hb dX2_lie_5 hl (by decide) rfl (fun ls hl => ?_)
    refine lv_aloadN hx hb dX2_lie_7 (lv_at hl 0 rfl) ?_
    refine lv_ifnullN (tgt := 35) hx hb dX2_lie_9 (by decide) ?_
    refine lv_bipush (v := -2) hx hb dX2_lie_35 (by decide) ?_
    exact k_reti X hr hlocks hP hS dX2_lie_37 (by simp only [pLie, ix_none hz_2 (show gn G < 2 ^ 31 by omega)] <;> rfl)

set_option maxHeartbeats 4000000 in
set_option maxRecDepth 100000 in
theorem m2_pass (l : Launch) (G : kG) (u : CS) (hL : lay G) (hk : okC G u) (x y t : Int32) : KMi l G (AC G) (wC G) yX2_pass cX2_pass 5 (Option.some FieldType.int) ({ frames := 3, cells := 0, slots := 0, locals := 71 }) [.ref (gL G 0), .int (x), .int (y), .int (t)] u (fun r u' => pPass (gn G) u x y t = (r, u')) := by
  refine K_of (by decide) (Nat.le_of_ble_eq_true rfl) ?_
  intro p e s m below meth c X hr hlocks hnm hK hP ls hl
  have hx := X.1
  have hb := X.2.1
  have hown := X.2.2.2.1
  have hts := X.2.2.2.2
  have hS : va_S (AC G) s.heap s.heap [] := va_S.rf
  have hl : lv_has ls 5 [(0, .ref (gL G 0)), (1, .int (x)), (2, .int (y)), (3, .int (t))] := hl
  obtain ⟨kn4, kn10, kT1, kT61, kP40, kLd, kPar, kEp, kHt, kFc, kVf, kTp, kHf⟩ := id hk
  refine lv_aload_n hx hb dX2_pass_0 rfl (lv_at hl 0 rfl) ?_
  refine lv_iload_n hx hb dX2_pass_1 rfl (lv_at hl 1 rfl) ?_
  refine k_cq (k_runV (As := [.int (x)]) (rest := []) X hK hP (wC_g G u (k := 0) (by decide)) rfl (m2_nodeAt l G u hL (hk) x) ⟨rfl, rfl⟩ tw_1_165 tw_1_167 tw_0_0 tw_1_1 tw_1_168 ⟨by decide +kernel, by decide +kernel, (by decide +kernel : (parseMethodDescriptor yX2_nodeAt.desc).map (fun d => d.parameters.length) = some 1)⟩ ⟨Nat.le_of_ble_eq_true rfl, Nat.le_of_ble_eq_true rfl⟩ hl.1 rfl (Nat.le_of_ble_eq_true rfl) ⟨Nat.zero_le _, Nat.zero_le _⟩ dX2_pass_2) hS (fun r_2 u_2 H locs hq_2 hP hS => ?_)
  have hP := k_su hq_2.1 hP
  rcases hq_2.2 with ⟨j_2, hj_2, hx_2, hr_2⟩ | ⟨hz_2, hr_2⟩
  · subst hx_2
    subst hr_2
    refine k_qs ?_
    refine lv_astore (lv' := [(4, .ref (gL G (11 + 5 * j_2))), (0, .ref (gL G 0)), (1, .int (nI j_2)), (2, .int (y)), (3, .int (t))]) hx hb dX2_pass_5 hl (by decide) rfl (fun ls hl => ?_)
    refine lv_aload hx hb dX2_pass_7 (lv_at hl 0 rfl) ?_
    refine lv_ifnull hx hb dX2_pass_9 ?_
    refine lv_iload_n hx hb dX2_pass_12 rfl (lv_at hl 3 rfl) ?_
    refine lv_if_eq (tgt := 35) hx hb dX2_pass_13 (by decide) (fun c_13 => ?_) (fun c_13 => ?_)
    · refine lv_bipush (v := -2) hx hb dX2_pass_35 (by decide) ?_
      exact k_reti X hr hlocks hP hS dX2_pass_37 (by simp only [pPass, ix_some hj_2 (show gn G < 2 ^ 31 by omega), if_pos c_13] <;> rfl)
    · refine lv_aload_n hx hb dX2_pass_16 rfl (lv_at hl 1 rfl) ?_
      refine k_get (v := .ref (gL G 3)) X hK inX2 rfl hP (wC_g G u (k := 0) (by decide)) 0 (by decide) tw_1_139 rfl dX2_pass_17 ?_
      refine lv_iload_n hx hb dX2_pass_20 rfl (lv_at hl 3 rfl) ?_
      refine k_ci (k_runN (As := [.int (y)]) (rest := []) X hK hP (wC_g G u (k := 3) (by decide)) rfl (m0_exist l G u hL (hk) y) ⟨rfl, rfl⟩ ntw_2_24 tw_2_26 tw_0_18 tw_1_3 tw_2_27 ⟨by decide +kernel, by decide +kernel, (by decide +kernel : (parseMethodDescriptor yX0_exist.desc).map (fun d => d.parameters.length) = some 1)⟩ ⟨Nat.le_of_ble_eq_true rfl, Nat.le_of_ble_eq_true rfl⟩ hl.1 rfl (Nat.le_of_ble_eq_true rfl) ⟨Nat.zero_le _, Nat.zero_le _⟩ dX2_pass_21) hS (fun r_21 u_21 H locs hq_21 hP hS => ?_)
      have hP := k_su hq_21.1 hP
      rcases hq_21.2 with ⟨j_21, hj_21, hx_21, hr_21⟩ | ⟨hz_21, hr_21⟩
      · subst hx_21
        subst hr_21
        refine lv_if_eq (tgt := 35) hx hb dX2_pass_24 (by decide) (fun c_24 => ?_) (fun c_24 => ?_)
        · exact absurd c_24 (by decide)
        · refine lv_aload_n hx hb dX2_pass_27 rfl (lv_at hl 1 rfl) ?_
          refine lv_iload_n hx hb dX2_pass_28 rfl (lv_at hl 4 rfl) ?_
          refine k_ci (k_runV (As := [.int (t)]) (rest := []) X hK hP (wC_g G u (k := 0) (by decide)) rfl (m2_areNodes l G u hL (hk) t) ⟨rfl, rfl⟩ tw_2_71 tw_2_73 tw_0_24 tw_1_1 tw_2_74 ⟨by decide +kernel, by decide +kernel, (by decide +kernel : (parseMethodDescriptor yX2_areNodes.desc).map (fun d => d.parameters.length) = some 1)⟩ ⟨Nat.le_of_ble_eq_true rfl, Nat.le_of_ble_eq_true rfl⟩ hl.1 rfl (Nat.le_of_ble_eq_true rfl) ⟨Nat.zero_le _, Nat.zero_le _⟩ dX2_pass_29) hS (fun r_29 u_29 H locs hq_29 hP hS => ?_)
          have hP := k_su hq_29.1 hP
          rcases hq_29.2 with ⟨hz_29, hr_29⟩ | ⟨hz_29, hr_29⟩
          · subst hr_29
            refine lv_if_ne (tgt := 38) hx hb dX2_pass_32 (by decide) (fun c_32 => ?_) (fun c_32 => ?_)
            · refine lv_aload hx hb dX2_pass_38 (lv_at hl 0 rfl) ?_
              refine k_gn (v := .int (bI ((mFa u.1) j_2))) X hK inX1 rfl hP (wC_n0 G u hj_2) 3 (by decide) ntw_1_83 rfl dX2_pass_40 ?_
              refine lv_if_eq (tgt := 58) hx hb dX2_pass_43 (by decide) (fun c_43 => ?_) (fun c_43 => ?_)
              · have c_43 : ((mFa u.1) j_2) = false := (bI_eq0 _).mp c_43
                refine lv_bipush (v := -3) hx hb dX2_pass_58 (by decide) ?_
                exact k_reti X hr hlocks hP hS dX2_pass_60 (by simp only [pPass, ix_some hj_2 (show gn G < 2 ^ 31 by omega), if_neg c_13, ix_some hj_21 (show mT u.1 < 2 ^ 31 by omega), if_pos hz_29]; rw [if_pos (by first | (simp [c_43]; done) | (simp [c_55]; done))])
              · have c_43 : ((mFa u.1) j_2) = true := (bI_ne0 _).mp c_43
                refine lv_aload hx hb dX2_pass_46 (lv_at hl 0 rfl) ?_
                refine k_gn (v := .long (eL (pB (mHs u.1) j_2))) X hK inX1 rfl hP (wC_n0 G u hj_2) 5 (by decide) ntw_1_86 rfl dX2_pass_48 ?_
                refine lv_iload_n hx hb dX2_pass_51 rfl (lv_at hl 3 rfl) ?_
                refine k_ci (k_runS (As := [.long (eL (pB (mHs u.1) j_2)), .int (nI j_21)]) (rest := []) X hK hP (m2_holds l G (AC G) (wC G) u (eL (pB (mHs u.1) j_2)) (k := j_21) (by omega)) ⟨rfl, rfl⟩ tw_1_235 tw_1_211 tw_1_1 tw_1_212 ⟨by decide +kernel, by decide +kernel, (by decide +kernel : (parseMethodDescriptor yX2_holds.desc).map (fun d => d.parameters.length) = some 2)⟩ ⟨Nat.le_of_ble_eq_true rfl, Nat.le_of_ble_eq_true rfl⟩ hl.1 rfl (Nat.le_of_ble_eq_true rfl) ⟨Nat.zero_le _, Nat.zero_le _⟩ dX2_pass_52) hS (fun r_52 u_52 H locs hq_52 hP hS => ?_)
                have hP := k_su hq_52.2 hP
                refine k_ti (y := bI (mHs u.1 (11 * j_21) j_2)) (hq_52.1.trans (congrArg bI (tL_eL _ (by omega)))) ?_
                refine lv_if_ne (tgt := 61) hx hb dX2_pass_55 (by decide) (fun c_55 => ?_) (fun c_55 => ?_)
                · have c_55 : (mHs u.1 (11 * j_21) j_2) = true := (bI_ne0 _).mp c_55
                  refine lv_aload_n hx hb dX2_pass_61 rfl (lv_at hl 1 rfl) ?_
                  refine lv_iload_n hx hb dX2_pass_62 rfl (lv_at hl 3 rfl) ?_
                  refine lv_iload_n hx hb dX2_pass_63 rfl (lv_at hl 4 rfl) ?_
                  refine k_ci (k_runV (As := [.int (nI j_21), .int (t)]) (rest := []) X hK hP (wC_g G u (k := 0) (by decide)) rfl (m2_sendProposal l G u hL (hk) (b := j_21) (by omega) t) ⟨rfl, rfl⟩ tw_1_231 tw_1_233 tw_0_11 tw_1_1 tw_1_234 ⟨by decide +kernel, by decide +kernel, (by decide +kernel : (parseMethodDescriptor yX2_sendProposal.desc).map (fun d => d.parameters.length) = some 2)⟩ ⟨Nat.le_of_ble_eq_true rfl, Nat.le_of_ble_eq_true rfl⟩ hl.1 rfl (Nat.le_of_ble_eq_true rfl) ⟨Nat.zero_le _, Nat.zero_le _⟩ dX2_pass_64) hS (fun r_64 u_64 H locs hq_64 hP hS => ?_)
                  have hP := k_su hq_64.2 hP
                  refine k_ti hq_64.1 ?_
                  have ok_64 : okC G ((sndM u.1 (11 * j_21) t (gn G), u.2)) := ok_snd (hk) _ _ _
                  exact k_reti X hr hlocks hP hS dX2_pass_67 (by simp only [pPass, ix_some hj_2 (show gn G < 2 ^ 31 by omega), if_neg c_13, ix_some hj_21 (show mT u.1 < 2 ^ 31 by omega), if_pos hz_29]; rw [if_neg (by simp [c_43, c_55])])
                · have c_55 : (mHs u.1 (11 * j_21) j_2) = false := (bI_eq0 _).mp c_55
                  refine lv_bipush (v := -3) hx hb dX2_pass_58 (by decide) ?_
                  exact k_reti X hr hlocks hP hS dX2_pass_60 (by simp only [pPass, ix_some hj_2 (show gn G < 2 ^ 31 by omega), if_neg c_13, ix_some hj_21 (show mT u.1 < 2 ^ 31 by omega), if_pos hz_29]; rw [if_pos (by first | (simp [c_43]; done) | (simp [c_55]; done))])
            · exact absurd c_32 (by decide)
          · subst hr_29
            refine lv_if_ne (tgt := 38) hx hb dX2_pass_32 (by decide) (fun c_32 => ?_) (fun c_32 => ?_)
            · exact absurd rfl c_32
            · refine lv_bipush (v := -2) hx hb dX2_pass_35 (by decide) ?_
              exact k_reti X hr hlocks hP hS dX2_pass_37 (by simp only [pPass, ix_some hj_2 (show gn G < 2 ^ 31 by omega), if_neg c_13, ix_some hj_21 (show mT u.1 < 2 ^ 31 by omega), if_neg hz_29] <;> rfl)
      · subst hr_21
        refine lv_if_eq (tgt := 35) hx hb dX2_pass_24 (by decide) (fun c_24 => ?_) (fun c_24 => ?_)
        · refine lv_bipush (v := -2) hx hb dX2_pass_35 (by decide) ?_
          exact k_reti X hr hlocks hP hS dX2_pass_37 (by simp only [pPass, ix_some hj_2 (show gn G < 2 ^ 31 by omega), if_neg c_13, ix_none hz_21 (show mT u.1 < 2 ^ 31 by omega)] <;> rfl)
        · exact absurd rfl c_24
  · subst hr_2
    refine k_qn ?_
    refine lv_astoreN (lv' := [(4, .null), (0, .ref (gL G 0)), (1, .int (x)), (2, .int (y)), (3, .int (t))]) hx hb dX2_pass_5 hl (by decide) rfl (fun ls hl => ?_)
    refine lv_aloadN hx hb dX2_pass_7 (lv_at hl 0 rfl) ?_
    refine lv_ifnullN (tgt := 35) hx hb dX2_pass_9 (by decide) ?_
    refine lv_bipush (v := -2) hx hb dX2_pass_35 (by decide) ?_
    exact k_reti X hr hlocks hP hS dX2_pass_37 (by simp only [pPass, ix_none hz_2 (show gn G < 2 ^ 31 by omega)] <;> rfl)

set_option maxHeartbeats 4000000 in
set_option maxRecDepth 100000 in
theorem m2_about (l : Launch) (G : kG) (u : CS) (hL : lay G) (hk : okC G u) (x y : Int32) : KMi l G (AC G) (wC G) yX2_about cX2_about 3 (Option.some FieldType.int) ({ frames := 1, cells := 0, slots := 0, locals := 21 }) [.ref (gL G 0), .int (x), .int (y)] u (fun r u' => pAbout u x y = (r, u')) := by
  refine K_of (by decide) (Nat.le_of_ble_eq_true rfl) ?_
  intro p e s m below meth c X hr hlocks hnm hK hP ls hl
  have hx := X.1
  have hb := X.2.1
  have hown := X.2.2.2.1
  have hts := X.2.2.2.2
  have hS : va_S (AC G) s.heap s.heap [] := va_S.rf
  have hl : lv_has ls 3 [(0, .ref (gL G 0)), (1, .int (x)), (2, .int (y))] := hl
  obtain ⟨kn4, kn10, kT1, kT61, kP40, kLd, kPar, kEp, kHt, kFc, kVf, kTp, kHf⟩ := id hk
  refine lv_aload_n hx hb dX2_about_0 rfl (lv_at hl 0 rfl) ?_
  refine k_get (v := .ref (gL G 3)) X hK inX2 rfl hP (wC_g G u (k := 0) (by decide)) 0 (by decide) tw_1_139 rfl dX2_about_1 ?_
  refine lv_iload_n hx hb dX2_about_4 rfl (lv_at hl 1 rfl) ?_
  refine k_ci (k_runN (As := [.int (x)]) (rest := []) X hK hP (wC_g G u (k := 3) (by decide)) rfl (m0_exist l G u hL (hk) x) ⟨rfl, rfl⟩ ntw_2_24 tw_2_26 tw_0_18 tw_1_3 tw_2_27 ⟨by decide +kernel, by decide +kernel, (by decide +kernel : (parseMethodDescriptor yX0_exist.desc).map (fun d => d.parameters.length) = some 1)⟩ ⟨Nat.le_of_ble_eq_true rfl, Nat.le_of_ble_eq_true rfl⟩ hl.1 rfl (Nat.le_of_ble_eq_true rfl) ⟨Nat.zero_le _, Nat.zero_le _⟩ dX2_about_5) hS (fun r_5 u_5 H locs hq_5 hP hS => ?_)
  have hP := k_su hq_5.1 hP
  rcases hq_5.2 with ⟨j_5, hj_5, hx_5, hr_5⟩ | ⟨hz_5, hr_5⟩
  · subst hx_5
    subst hr_5
    refine lv_if_ne (tgt := 14) hx hb dX2_about_8 (by decide) (fun c_8 => ?_) (fun c_8 => ?_)
    · refine lv_iload_n hx hb dX2_about_14 rfl (lv_at hl 2 rfl) ?_
      rcases sw5 y with hsw | hsw | hsw | hsw | hsw | hsw
      · subst hsw
        refine lv_tableIn (off := 33) (tgt := 48) hx hb dX2_about_15 (by decide) (by decide) (by decide +kernel) (by decide) ?_
        refine lv_aload_n hx hb dX2_about_48 rfl (lv_at hl 0 rfl) ?_
        refine k_get (v := .ref (gL G 3)) X hK inX2 rfl hP (wC_g G u (k := 0) (by decide)) 0 (by decide) tw_1_139 rfl dX2_about_49 ?_
        refine k_gn (v := .ref (gL G 4)) X hK inX0 rfl hP (wC_g G u (k := 3) (by decide)) 0 (by decide) ntw_1_31 rfl dX2_about_52 ?_
        refine lv_iload_n hx hb dX2_about_55 rfl (lv_at hl 1 rfl) ?_
        refine k_ild (v := eP (mPar u.1) j_5) X hK hP (wC_g G u (k := 4) (by decide)) (by omega) (by decide) rfl dX2_about_56 ?_
        exact k_reti X hr hlocks hP hS dX2_about_57 (by simp only [pAbout, ix_some hj_5 (show mT u.1 < 2 ^ 31 by omega), show ix 5 (nI 0) = some 0 from by decide +kernel] <;> rfl)
      · subst hsw
        refine lv_tableIn (off := 43) (tgt := 58) hx hb dX2_about_15 (by decide) (by decide) (by decide +kernel) (by decide) ?_
        refine lv_aload_n hx hb dX2_about_58 rfl (lv_at hl 0 rfl) ?_
        refine k_get (v := .ref (gL G 3)) X hK inX2 rfl hP (wC_g G u (k := 0) (by decide)) 0 (by decide) tw_1_139 rfl dX2_about_59 ?_
        refine k_gn (v := .ref (gL G 5)) X hK inX0 rfl hP (wC_g G u (k := 3) (by decide)) 1 (by decide) ntw_1_34 rfl dX2_about_62 ?_
        refine lv_iload_n hx hb dX2_about_65 rfl (lv_at hl 1 rfl) ?_
        refine k_ild (v := nI (mEp u.1 j_5)) X hK hP (wC_g G u (k := 5) (by decide)) (by omega) (by decide) rfl dX2_about_66 ?_
        exact k_reti X hr hlocks hP hS dX2_about_67 (by simp only [pAbout, ix_some hj_5 (show mT u.1 < 2 ^ 31 by omega), show ix 5 (nI 1) = some 1 from by decide +kernel] <;> rfl)
      · subst hsw
        refine lv_tableIn (off := 53) (tgt := 68) hx hb dX2_about_15 (by decide) (by decide) (by decide +kernel) (by decide) ?_
        refine lv_aload_n hx hb dX2_about_68 rfl (lv_at hl 0 rfl) ?_
        refine k_get (v := .ref (gL G 3)) X hK inX2 rfl hP (wC_g G u (k := 0) (by decide)) 0 (by decide) tw_1_139 rfl dX2_about_69 ?_
        refine k_gn (v := .ref (gL G 6)) X hK inX0 rfl hP (wC_g G u (k := 3) (by decide)) 2 (by decide) ntw_1_36 rfl dX2_about_72 ?_
        refine lv_iload_n hx hb dX2_about_75 rfl (lv_at hl 1 rfl) ?_
        refine k_ild (v := mLo u.1 j_5) X hK hP (wC_g G u (k := 6) (by decide)) (by omega) (by decide) rfl dX2_about_76 ?_
        exact k_reti X hr hlocks hP hS dX2_about_77 (by simp only [pAbout, ix_some hj_5 (show mT u.1 < 2 ^ 31 by omega), show ix 5 (nI 2) = some 2 from by decide +kernel] <;> rfl)
      · subst hsw
        refine lv_tableIn (off := 63) (tgt := 78) hx hb dX2_about_15 (by decide) (by decide) (by decide +kernel) (by decide) ?_
        refine lv_aload_n hx hb dX2_about_78 rfl (lv_at hl 0 rfl) ?_
        refine k_get (v := .ref (gL G 3)) X hK inX2 rfl hP (wC_g G u (k := 0) (by decide)) 0 (by decide) tw_1_139 rfl dX2_about_79 ?_
        refine k_gn (v := .ref (gL G 7)) X hK inX0 rfl hP (wC_g G u (k := 3) (by decide)) 3 (by decide) ntw_1_39 rfl dX2_about_82 ?_
        refine lv_iload_n hx hb dX2_about_85 rfl (lv_at hl 1 rfl) ?_
        refine k_ild (v := nI (mHt u.1 j_5)) X hK hP (wC_g G u (k := 7) (by decide)) (by omega) (by decide) rfl dX2_about_86 ?_
        exact k_reti X hr hlocks hP hS dX2_about_87 (by simp only [pAbout, ix_some hj_5 (show mT u.1 < 2 ^ 31 by omega), show ix 5 (nI 3) = some 3 from by decide +kernel] <;> rfl)
      · subst hsw
        refine lv_tableIn (off := 73) (tgt := 88) hx hb dX2_about_15 (by decide) (by decide) (by decide +kernel) (by decide) ?_
        refine lv_aload_n hx hb dX2_about_88 rfl (lv_at hl 0 rfl) ?_
        refine k_get (v := .ref (gL G 3)) X hK inX2 rfl hP (wC_g G u (k := 0) (by decide)) 0 (by decide) tw_1_139 rfl dX2_about_89 ?_
        refine k_gn (v := .ref (gL G 8)) X hK inX0 rfl hP (wC_g G u (k := 3) (by decide)) 4 (by decide) ntw_1_41 rfl dX2_about_92 ?_
        refine lv_iload_n hx hb dX2_about_95 rfl (lv_at hl 1 rfl) ?_
        refine k_ild (v := eP (mMk u.1) j_5) X hK hP (wC_g G u (k := 8) (by decide)) (by omega) (by decide) rfl dX2_about_96 ?_
        exact k_reti X hr hlocks hP hS dX2_about_97 (by simp only [pAbout, ix_some hj_5 (show mT u.1 < 2 ^ 31 by omega), show ix 5 (nI 4) = some 4 from by decide +kernel] <;> rfl)
      · refine lv_tableOut (tgt := 98) hx hb dX2_about_15 (sw_out hsw (by decide)) (by decide) ?_
        refine lv_bipush (v := -2) hx hb dX2_about_98 (by decide) ?_
        exact k_reti X hr hlocks hP hS dX2_about_100 (by simp only [pAbout, ix_some hj_5 (show mT u.1 < 2 ^ 31 by omega), ix_none hsw (show 5 < 2 ^ 31 by decide)] <;> rfl)
    · exact absurd c_8 (by decide)
  · subst hr_5
    refine lv_if_ne (tgt := 14) hx hb dX2_about_8 (by decide) (fun c_8 => ?_) (fun c_8 => ?_)
    · exact absurd rfl c_8
    · refine lv_bipush (v := -2) hx hb dX2_about_11 (by decide) ?_
      exact k_reti X hr hlocks hP hS dX2_about_13 (by simp only [pAbout, ix_none hz_5 (show mT u.1 < 2 ^ 31 by omega)] <;> rfl)

set_option maxHeartbeats 4000000 in
set_option maxRecDepth 100000 in
theorem m2_seen (l : Launch) (G : kG) (u : CS) (hL : lay G) (hk : okC G u) (x y : Int32) : KMi l G (AC G) (wC G) yX2_seen cX2_seen 4 (Option.some FieldType.int) ({ frames := 1, cells := 0, slots := 0, locals := 22 }) [.ref (gL G 0), .int (x), .int (y)] u (fun r u' => pSeen (gn G) u x y = (r, u')) := by
  refine K_of (by decide) (Nat.le_of_ble_eq_true rfl) ?_
  intro p e s m below meth c X hr hlocks hnm hK hP ls hl
  have hx := X.1
  have hb := X.2.1
  have hown := X.2.2.2.1
  have hts := X.2.2.2.2
  have hS : va_S (AC G) s.heap s.heap [] := va_S.rf
  have hl : lv_has ls 4 [(0, .ref (gL G 0)), (1, .int (x)), (2, .int (y))] := hl
  obtain ⟨kn4, kn10, kT1, kT61, kP40, kLd, kPar, kEp, kHt, kFc, kVf, kTp, kHf⟩ := id hk
  refine lv_aload_n hx hb dX2_seen_0 rfl (lv_at hl 0 rfl) ?_
  refine lv_iload_n hx hb dX2_seen_1 rfl (lv_at hl 1 rfl) ?_
  refine k_cq (k_runV (As := [.int (x)]) (rest := []) X hK hP (wC_g G u (k := 0) (by decide)) rfl (m2_nodeAt l G u hL (hk) x) ⟨rfl, rfl⟩ tw_1_165 tw_1_167 tw_0_0 tw_1_1 tw_1_168 ⟨by decide +kernel, by decide +kernel, (by decide +kernel : (parseMethodDescriptor yX2_nodeAt.desc).map (fun d => d.parameters.length) = some 1)⟩ ⟨Nat.le_of_ble_eq_true rfl, Nat.le_of_ble_eq_true rfl⟩ hl.1 rfl (Nat.le_of_ble_eq_true rfl) ⟨Nat.zero_le _, Nat.zero_le _⟩ dX2_seen_2) hS (fun r_2 u_2 H locs hq_2 hP hS => ?_)
  have hP := k_su hq_2.1 hP
  rcases hq_2.2 with ⟨j_2, hj_2, hx_2, hr_2⟩ | ⟨hz_2, hr_2⟩
  · subst hx_2
    subst hr_2
    refine k_qs ?_
    refine lv_astore_n (lv' := [(3, .ref (gL G (11 + 5 * j_2))), (0, .ref (gL G 0)), (1, .int (nI j_2)), (2, .int (y))]) hx hb dX2_seen_5 rfl hl (by decide) rfl (fun ls hl => ?_)
    refine lv_aload_n hx hb dX2_seen_6 rfl (lv_at hl 0 rfl) ?_
    refine lv_ifnull hx hb dX2_seen_7 ?_
    refine lv_aload_n hx hb dX2_seen_10 rfl (lv_at hl 1 rfl) ?_
    refine k_get (v := .ref (gL G 3)) X hK inX2 rfl hP (wC_g G u (k := 0) (by decide)) 0 (by decide) tw_1_139 rfl dX2_seen_11 ?_
    refine lv_iload_n hx hb dX2_seen_14 rfl (lv_at hl 3 rfl) ?_
    refine k_ci (k_runN (As := [.int (y)]) (rest := []) X hK hP (wC_g G u (k := 3) (by decide)) rfl (m0_exist l G u hL (hk) y) ⟨rfl, rfl⟩ ntw_2_24 tw_2_26 tw_0_18 tw_1_3 tw_2_27 ⟨by decide +kernel, by decide +kernel, (by decide +kernel : (parseMethodDescriptor yX0_exist.desc).map (fun d => d.parameters.length) = some 1)⟩ ⟨Nat.le_of_ble_eq_true rfl, Nat.le_of_ble_eq_true rfl⟩ hl.1 rfl (Nat.le_of_ble_eq_true rfl) ⟨Nat.zero_le _, Nat.zero_le _⟩ dX2_seen_15) hS (fun r_15 u_15 H locs hq_15 hP hS => ?_)
    have hP := k_su hq_15.1 hP
    rcases hq_15.2 with ⟨j_15, hj_15, hx_15, hr_15⟩ | ⟨hz_15, hr_15⟩
    · subst hx_15
      subst hr_15
      refine lv_if_ne (tgt := 24) hx hb dX2_seen_18 (by decide) (fun c_18 => ?_) (fun c_18 => ?_)
      · refine lv_aload_n hx hb dX2_seen_24 rfl (lv_at hl 0 rfl) ?_
        refine k_gn (v := .long (eL ((xFi u.2) j_2))) X hK inX1 rfl hP (wC_n0 G u hj_2) 13 (by decide) ntw_1_101 rfl dX2_seen_25 ?_
        refine lv_iload_n hx hb dX2_seen_28 rfl (lv_at hl 3 rfl) ?_
        refine k_ci (k_runS (As := [.long (eL ((xFi u.2) j_2)), .int (nI j_15)]) (rest := []) X hK hP (m2_holds l G (AC G) (wC G) u (eL ((xFi u.2) j_2)) (k := j_15) (by omega)) ⟨rfl, rfl⟩ tw_1_235 tw_1_211 tw_1_1 tw_1_212 ⟨by decide +kernel, by decide +kernel, (by decide +kernel : (parseMethodDescriptor yX2_holds.desc).map (fun d => d.parameters.length) = some 2)⟩ ⟨Nat.le_of_ble_eq_true rfl, Nat.le_of_ble_eq_true rfl⟩ hl.1 rfl (Nat.le_of_ble_eq_true rfl) ⟨Nat.zero_le _, Nat.zero_le _⟩ dX2_seen_29) hS (fun r_29 u_29 H locs hq_29 hP hS => ?_)
        have hP := k_su hq_29.2 hP
        refine k_ti (y := bI (xFi u.2 j_2 j_15)) (hq_29.1.trans (congrArg bI (tL_eL _ (by omega)))) ?_
        refine lv_if_eq (tgt := 37) hx hb dX2_seen_32 (by decide) (fun c_32 => ?_) (fun c_32 => ?_)
        · have c_32 : (xFi u.2 j_2 j_15) = false := (bI_eq0 _).mp c_32
          refine lv_aload_n hx hb dX2_seen_37 rfl (lv_at hl 0 rfl) ?_
          refine k_gn (v := .long (eL ((xNo u.2) j_2))) X hK inX1 rfl hP (wC_n0 G u hj_2) 12 (by decide) ntw_1_99 rfl dX2_seen_38 ?_
          refine lv_iload_n hx hb dX2_seen_41 rfl (lv_at hl 3 rfl) ?_
          refine k_ci (k_runS (As := [.long (eL ((xNo u.2) j_2)), .int (nI j_15)]) (rest := []) X hK hP (m2_holds l G (AC G) (wC G) u (eL ((xNo u.2) j_2)) (k := j_15) (by omega)) ⟨rfl, rfl⟩ tw_1_235 tw_1_211 tw_1_1 tw_1_212 ⟨by decide +kernel, by decide +kernel, (by decide +kernel : (parseMethodDescriptor yX2_holds.desc).map (fun d => d.parameters.length) = some 2)⟩ ⟨Nat.le_of_ble_eq_true rfl, Nat.le_of_ble_eq_true rfl⟩ hl.1 rfl (Nat.le_of_ble_eq_true rfl) ⟨Nat.zero_le _, Nat.zero_le _⟩ dX2_seen_42) hS (fun r_42 u_42 H locs hq_42 hP hS => ?_)
          have hP := k_su hq_42.2 hP
          refine k_ti (y := bI (xNo u.2 j_2 j_15)) (hq_42.1.trans (congrArg bI (tL_eL _ (by omega)))) ?_
          refine lv_if_eq (tgt := 50) hx hb dX2_seen_45 (by decide) (fun c_45 => ?_) (fun c_45 => ?_)
          · have c_45 : (xNo u.2 j_2 j_15) = false := (bI_eq0 _).mp c_45
            refine lv_aload_n hx hb dX2_seen_50 rfl (lv_at hl 0 rfl) ?_
            refine k_gn (v := .long (eL ((xKn u.2) j_2))) X hK inX1 rfl hP (wC_n0 G u hj_2) 11 (by decide) ntw_1_97 rfl dX2_seen_51 ?_
            refine lv_iload_n hx hb dX2_seen_54 rfl (lv_at hl 3 rfl) ?_
            refine k_ci (k_runS (As := [.long (eL ((xKn u.2) j_2)), .int (nI j_15)]) (rest := []) X hK hP (m2_holds l G (AC G) (wC G) u (eL ((xKn u.2) j_2)) (k := j_15) (by omega)) ⟨rfl, rfl⟩ tw_1_235 tw_1_211 tw_1_1 tw_1_212 ⟨by decide +kernel, by decide +kernel, (by decide +kernel : (parseMethodDescriptor yX2_holds.desc).map (fun d => d.parameters.length) = some 2)⟩ ⟨Nat.le_of_ble_eq_true rfl, Nat.le_of_ble_eq_true rfl⟩ hl.1 rfl (Nat.le_of_ble_eq_true rfl) ⟨Nat.zero_le _, Nat.zero_le _⟩ dX2_seen_55) hS (fun r_55 u_55 H locs hq_55 hP hS => ?_)
            have hP := k_su hq_55.2 hP
            refine k_ti (y := bI (xKn u.2 j_2 j_15)) (hq_55.1.trans (congrArg bI (tL_eL _ (by omega)))) ?_
            refine lv_if_eq (tgt := 63) hx hb dX2_seen_58 (by decide) (fun c_58 => ?_) (fun c_58 => ?_)
            · have c_58 : (xKn u.2 j_2 j_15) = false := (bI_eq0 _).mp c_58
              refine lv_aload_n hx hb dX2_seen_63 rfl (lv_at hl 0 rfl) ?_
              refine k_gn (v := .long (eL (pB (mHs u.1) j_2))) X hK inX1 rfl hP (wC_n0 G u hj_2) 5 (by decide) ntw_1_86 rfl dX2_seen_64 ?_
              refine lv_iload_n hx hb dX2_seen_67 rfl (lv_at hl 3 rfl) ?_
              refine k_ci (k_runS (As := [.long (eL (pB (mHs u.1) j_2)), .int (nI j_15)]) (rest := []) X hK hP (m2_holds l G (AC G) (wC G) u (eL (pB (mHs u.1) j_2)) (k := j_15) (by omega)) ⟨rfl, rfl⟩ tw_1_235 tw_1_211 tw_1_1 tw_1_212 ⟨by decide +kernel, by decide +kernel, (by decide +kernel : (parseMethodDescriptor yX2_holds.desc).map (fun d => d.parameters.length) = some 2)⟩ ⟨Nat.le_of_ble_eq_true rfl, Nat.le_of_ble_eq_true rfl⟩ hl.1 rfl (Nat.le_of_ble_eq_true rfl) ⟨Nat.zero_le _, Nat.zero_le _⟩ dX2_seen_68) hS (fun r_68 u_68 H locs hq_68 hP hS => ?_)
              have hP := k_su hq_68.2 hP
              refine k_ti (y := bI (mHs u.1 (11 * j_15) j_2)) (hq_68.1.trans (congrArg bI (tL_eL _ (by omega)))) ?_
              refine lv_if_eq (tgt := 78) hx hb dX2_seen_71 (by decide) (fun c_71 => ?_) (fun c_71 => ?_)
              · have c_71 : (mHs u.1 (11 * j_15) j_2) = false := (bI_eq0 _).mp c_71
                refine lv_iconst (v := nI 0) hx hb dX2_seen_78 (by decide) ?_
                exact k_reti X hr hlocks hP hS dX2_seen_79 (by simp only [pSeen, ix_some hj_2 (show gn G < 2 ^ 31 by omega), ix_some hj_15 (show mT u.1 < 2 ^ 31 by omega)]; rw [if_neg (by rw [c_32]; decide), if_neg (by rw [c_45]; decide), if_neg (by rw [c_58]; decide), if_neg (by rw [c_71]; decide)]; rfl)
              · have c_71 : (mHs u.1 (11 * j_15) j_2) = true := (bI_ne0 _).mp c_71
                refine lv_iconst (v := nI 1) hx hb dX2_seen_74 (by decide) ?_
                refine lv_goto (tgt := 79) hx hb dX2_seen_75 (by decide) ?_
                exact k_reti X hr hlocks hP hS dX2_seen_79 (by simp only [pSeen, ix_some hj_2 (show gn G < 2 ^ 31 by omega), ix_some hj_15 (show mT u.1 < 2 ^ 31 by omega)]; rw [if_neg (by rw [c_32]; decide), if_neg (by rw [c_45]; decide), if_neg (by rw [c_58]; decide), if_pos c_71]; rfl)
            · have c_58 : (xKn u.2 j_2 j_15) = true := (bI_ne0 _).mp c_58
              refine lv_iconst (v := nI 2) hx hb dX2_seen_61 (by decide) ?_
              exact k_reti X hr hlocks hP hS dX2_seen_62 (by simp only [pSeen, ix_some hj_2 (show gn G < 2 ^ 31 by omega), ix_some hj_15 (show mT u.1 < 2 ^ 31 by omega)]; rw [if_neg (by rw [c_32]; decide), if_neg (by rw [c_45]; decide), if_pos c_58]; rfl)
          · have c_45 : (xNo u.2 j_2 j_15) = true := (bI_ne0 _).mp c_45
            refine lv_iconst (v := nI 3) hx hb dX2_seen_48 (by decide) ?_
            exact k_reti X hr hlocks hP hS dX2_seen_49 (by simp only [pSeen, ix_some hj_2 (show gn G < 2 ^ 31 by omega), ix_some hj_15 (show mT u.1 < 2 ^ 31 by omega)]; rw [if_neg (by rw [c_32]; decide), if_pos c_45]; rfl)
        · have c_32 : (xFi u.2 j_2 j_15) = true := (bI_ne0 _).mp c_32
          refine lv_iconst (v := nI 4) hx hb dX2_seen_35 (by decide) ?_
          exact k_reti X hr hlocks hP hS dX2_seen_36 (by simp only [pSeen, ix_some hj_2 (show gn G < 2 ^ 31 by omega), ix_some hj_15 (show mT u.1 < 2 ^ 31 by omega)]; rw [if_pos c_32]; rfl)
      · exact absurd c_18 (by decide)
    · subst hr_15
      refine lv_if_ne (tgt := 24) hx hb dX2_seen_18 (by decide) (fun c_18 => ?_) (fun c_18 => ?_)
      · exact absurd rfl c_18
      · refine lv_bipush (v := -2) hx hb dX2_seen_21 (by decide) ?_
        exact k_reti X hr hlocks hP hS dX2_seen_23 (by simp only [pSeen, ix_some hj_2 (show gn G < 2 ^ 31 by omega), ix_none hz_15 (show mT u.1 < 2 ^ 31 by omega)] <;> rfl)
  · subst hr_2
    refine k_qn ?_
    refine lv_astore_nN (lv' := [(3, .null), (0, .ref (gL G 0)), (1, .int (x)), (2, .int (y))]) hx hb dX2_seen_5 rfl hl (by decide) rfl (fun ls hl => ?_)
    refine lv_aload_nN hx hb dX2_seen_6 rfl (lv_at hl 0 rfl) ?_
    refine lv_ifnullN (tgt := 21) hx hb dX2_seen_7 (by decide) ?_
    refine lv_bipush (v := -2) hx hb dX2_seen_21 (by decide) ?_
    exact k_reti X hr hlocks hP hS dX2_seen_23 (by simp only [pSeen, ix_none hz_2 (show gn G < 2 ^ 31 by omega)] <;> rfl)

set_option maxHeartbeats 4000000 in
set_option maxRecDepth 100000 in
theorem m2_votes (l : Launch) (G : kG) (u : CS) (hL : lay G) (hk : okC G u) (x y : Int32) : KMi l G (AC G) (wC G) yX2_votes cX2_votes 4 (Option.some FieldType.int) ({ frames := 1, cells := 0, slots := 0, locals := 21 }) [.ref (gL G 0), .int (x), .int (y)] u (fun r u' => pVotes (gn G) u x y = (r, u')) := by
  refine K_of (by decide) (Nat.le_of_ble_eq_true rfl) ?_
  intro p e s m below meth c X hr hlocks hnm hK hP ls hl
  have hx := X.1
  have hb := X.2.1
  have hown := X.2.2.2.1
  have hts := X.2.2.2.2
  have hS : va_S (AC G) s.heap s.heap [] := va_S.rf
  have hl : lv_has ls 4 [(0, .ref (gL G 0)), (1, .int (x)), (2, .int (y))] := hl
  obtain ⟨kn4, kn10, kT1, kT61, kP40, kLd, kPar, kEp, kHt, kFc, kVf, kTp, kHf⟩ := id hk
  refine lv_aload_n hx hb dX2_votes_0 rfl (lv_at hl 0 rfl) ?_
  refine lv_iload_n hx hb dX2_votes_1 rfl (lv_at hl 1 rfl) ?_
  refine k_cq (k_runV (As := [.int (x)]) (rest := []) X hK hP (wC_g G u (k := 0) (by decide)) rfl (m2_nodeAt l G u hL (hk) x) ⟨rfl, rfl⟩ tw_1_165 tw_1_167 tw_0_0 tw_1_1 tw_1_168 ⟨by decide +kernel, by decide +kernel, (by decide +kernel : (parseMethodDescriptor yX2_nodeAt.desc).map (fun d => d.parameters.length) = some 1)⟩ ⟨Nat.le_of_ble_eq_true rfl, Nat.le_of_ble_eq_true rfl⟩ hl.1 rfl (Nat.le_of_ble_eq_true rfl) ⟨Nat.zero_le _, Nat.zero_le _⟩ dX2_votes_2) hS (fun r_2 u_2 H locs hq_2 hP hS => ?_)
  have hP := k_su hq_2.1 hP
  rcases hq_2.2 with ⟨j_2, hj_2, hx_2, hr_2⟩ | ⟨hz_2, hr_2⟩
  · subst hx_2
    subst hr_2
    refine k_qs ?_
    refine lv_astore_n (lv' := [(3, .ref (gL G (11 + 5 * j_2))), (0, .ref (gL G 0)), (1, .int (nI j_2)), (2, .int (y))]) hx hb dX2_votes_5 rfl hl (by decide) rfl (fun ls hl => ?_)
    refine lv_aload_n hx hb dX2_votes_6 rfl (lv_at hl 0 rfl) ?_
    refine lv_ifnull hx hb dX2_votes_7 ?_
    refine lv_aload_n hx hb dX2_votes_10 rfl (lv_at hl 1 rfl) ?_
    refine k_get (v := .ref (gL G 3)) X hK inX2 rfl hP (wC_g G u (k := 0) (by decide)) 0 (by decide) tw_1_139 rfl dX2_votes_11 ?_
    refine lv_iload_n hx hb dX2_votes_14 rfl (lv_at hl 3 rfl) ?_
    refine k_ci (k_runN (As := [.int (y)]) (rest := []) X hK hP (wC_g G u (k := 3) (by decide)) rfl (m0_exist l G u hL (hk) y) ⟨rfl, rfl⟩ ntw_2_24 tw_2_26 tw_0_18 tw_1_3 tw_2_27 ⟨by decide +kernel, by decide +kernel, (by decide +kernel : (parseMethodDescriptor yX0_exist.desc).map (fun d => d.parameters.length) = some 1)⟩ ⟨Nat.le_of_ble_eq_true rfl, Nat.le_of_ble_eq_true rfl⟩ hl.1 rfl (Nat.le_of_ble_eq_true rfl) ⟨Nat.zero_le _, Nat.zero_le _⟩ dX2_votes_15) hS (fun r_15 u_15 H locs hq_15 hP hS => ?_)
    have hP := k_su hq_15.1 hP
    rcases hq_15.2 with ⟨j_15, hj_15, hx_15, hr_15⟩ | ⟨hz_15, hr_15⟩
    · subst hx_15
      subst hr_15
      refine lv_if_ne (tgt := 24) hx hb dX2_votes_18 (by decide) (fun c_18 => ?_) (fun c_18 => ?_)
      · refine lv_aload_n hx hb dX2_votes_24 rfl (lv_at hl 0 rfl) ?_
        refine k_gn (v := .ref (gL G (12 + 5 * j_2))) X hK inX1 rfl hP (wC_n0 G u hj_2) 7 (by decide) ntw_1_90 rfl dX2_votes_25 ?_
        refine lv_iload_n hx hb dX2_votes_28 rfl (lv_at hl 3 rfl) ?_
        refine k_ild (v := eI (vB (mHs u.1) j_15 j_2)) X hK hP (wC_n1 G u hj_2) (by omega) (by decide) rfl dX2_votes_29 ?_
        refine k_ci (k_runS (As := [.int (eI (vB (mHs u.1) j_15 j_2))]) (rest := []) X hK hP (mJ_bc32 l G (AC G) (wC G) u (eI (vB (mHs u.1) j_15 j_2))) ⟨rfl, rfl⟩ tw_2_66 tw_1_214 tw_1_7 tw_1_215 ⟨by decide +kernel, by decide +kernel, (by decide +kernel : (parseMethodDescriptor yJ6_bitCount_0f7a4.desc).map (fun d => d.parameters.length) = some 1)⟩ ⟨Nat.le_of_ble_eq_true rfl, Nat.le_of_ble_eq_true rfl⟩ hl.1 rfl (Nat.le_of_ble_eq_true rfl) ⟨Nat.zero_le _, Nat.zero_le _⟩ dX2_votes_30) hS (fun r_30 u_30 H locs hq_30 hP hS => ?_)
        have hP := k_su hq_30.2 hP
        refine k_ti (y := nI (nVo u.1 j_15 j_2)) (hq_30.1.trans (congrArg nI (cnt_vB _ _ _))) ?_
        exact k_reti X hr hlocks hP hS dX2_votes_33 (by simp only [pVotes, ix_some hj_2 (show gn G < 2 ^ 31 by omega), ix_some hj_15 (show mT u.1 < 2 ^ 31 by omega)] <;> rfl)
      · exact absurd c_18 (by decide)
    · subst hr_15
      refine lv_if_ne (tgt := 24) hx hb dX2_votes_18 (by decide) (fun c_18 => ?_) (fun c_18 => ?_)
      · exact absurd rfl c_18
      · refine lv_bipush (v := -2) hx hb dX2_votes_21 (by decide) ?_
        exact k_reti X hr hlocks hP hS dX2_votes_23 (by simp only [pVotes, ix_some hj_2 (show gn G < 2 ^ 31 by omega), ix_none hz_15 (show mT u.1 < 2 ^ 31 by omega)] <;> rfl)
  · subst hr_2
    refine k_qn ?_
    refine lv_astore_nN (lv' := [(3, .null), (0, .ref (gL G 0)), (1, .int (x)), (2, .int (y))]) hx hb dX2_votes_5 rfl hl (by decide) rfl (fun ls hl => ?_)
    refine lv_aload_nN hx hb dX2_votes_6 rfl (lv_at hl 0 rfl) ?_
    refine lv_ifnullN (tgt := 21) hx hb dX2_votes_7 (by decide) ?_
    refine lv_bipush (v := -2) hx hb dX2_votes_21 (by decide) ?_
    exact k_reti X hr hlocks hP hS dX2_votes_23 (by simp only [pVotes, ix_none hz_2 (show gn G < 2 ^ 31 by omega)] <;> rfl)

set_option maxHeartbeats 4000000 in
set_option maxRecDepth 100000 in
theorem m2_voted (l : Launch) (G : kG) (u : CS) (hL : lay G) (hk : okC G u) (x y : Int32) : KMi l G (AC G) (wC G) yX2_voted cX2_voted 4 (Option.some FieldType.int) ({ frames := 1, cells := 0, slots := 0, locals := 21 }) [.ref (gL G 0), .int (x), .int (y)] u (fun r u' => pVoted (gn G) u x y = (r, u')) := by
  refine K_of (by decide) (Nat.le_of_ble_eq_true rfl) ?_
  intro p e s m below meth c X hr hlocks hnm hK hP ls hl
  have hx := X.1
  have hb := X.2.1
  have hown := X.2.2.2.1
  have hts := X.2.2.2.2
  have hS : va_S (AC G) s.heap s.heap [] := va_S.rf
  have hl : lv_has ls 4 [(0, .ref (gL G 0)), (1, .int (x)), (2, .int (y))] := hl
  obtain ⟨kn4, kn10, kT1, kT61, kP40, kLd, kPar, kEp, kHt, kFc, kVf, kTp, kHf⟩ := id hk
  refine lv_aload_n hx hb dX2_voted_0 rfl (lv_at hl 0 rfl) ?_
  refine lv_iload_n hx hb dX2_voted_1 rfl (lv_at hl 1 rfl) ?_
  refine k_cq (k_runV (As := [.int (x)]) (rest := []) X hK hP (wC_g G u (k := 0) (by decide)) rfl (m2_nodeAt l G u hL (hk) x) ⟨rfl, rfl⟩ tw_1_165 tw_1_167 tw_0_0 tw_1_1 tw_1_168 ⟨by decide +kernel, by decide +kernel, (by decide +kernel : (parseMethodDescriptor yX2_nodeAt.desc).map (fun d => d.parameters.length) = some 1)⟩ ⟨Nat.le_of_ble_eq_true rfl, Nat.le_of_ble_eq_true rfl⟩ hl.1 rfl (Nat.le_of_ble_eq_true rfl) ⟨Nat.zero_le _, Nat.zero_le _⟩ dX2_voted_2) hS (fun r_2 u_2 H locs hq_2 hP hS => ?_)
  have hP := k_su hq_2.1 hP
  rcases hq_2.2 with ⟨j_2, hj_2, hx_2, hr_2⟩ | ⟨hz_2, hr_2⟩
  · subst hx_2
    subst hr_2
    refine k_qs ?_
    refine lv_astore_n (lv' := [(3, .ref (gL G (11 + 5 * j_2))), (0, .ref (gL G 0)), (1, .int (nI j_2)), (2, .int (y))]) hx hb dX2_voted_5 rfl hl (by decide) rfl (fun ls hl => ?_)
    refine lv_aload_n hx hb dX2_voted_6 rfl (lv_at hl 0 rfl) ?_
    refine lv_ifnull hx hb dX2_voted_7 ?_
    refine lv_iload_n hx hb dX2_voted_10 rfl (lv_at hl 3 rfl) ?_
    refine k_ci (k_runS (As := [.int (y)]) (rest := []) X hK hP (m2_isEpoch l G (AC G) (wC G) u y) ⟨rfl, rfl⟩ tw_1_162 tw_1_163 tw_1_1 tw_1_164 ⟨by decide +kernel, by decide +kernel, (by decide +kernel : (parseMethodDescriptor yX2_isEpoch.desc).map (fun d => d.parameters.length) = some 1)⟩ ⟨Nat.le_of_ble_eq_true rfl, Nat.le_of_ble_eq_true rfl⟩ hl.1 rfl (Nat.le_of_ble_eq_true rfl) ⟨Nat.zero_le _, Nat.zero_le _⟩ dX2_voted_11) hS (fun r_11 u_11 H locs hq_11 hP hS => ?_)
    have hP := k_su hq_11.1 hP
    rcases hq_11.2 with ⟨j_11, hj_11, hx_11, hr_11⟩ | ⟨hz_11, hr_11⟩
    · subst hx_11
      subst hr_11
      refine lv_if_ne (tgt := 20) hx hb dX2_voted_14 (by decide) (fun c_14 => ?_) (fun c_14 => ?_)
      · refine lv_aload_n hx hb dX2_voted_20 rfl (lv_at hl 0 rfl) ?_
        refine k_gn (v := .ref (gL G (15 + 5 * j_2))) X hK inX1 rfl hP (wC_n0 G u hj_2) 10 (by decide) ntw_1_95 rfl dX2_voted_21 ?_
        refine lv_iload_n hx hb dX2_voted_24 rfl (lv_at hl 3 rfl) ?_
        refine k_ild (v := oI (mVf u.1 j_2 j_11)) X hK hP (wC_n4 G u hj_2) (by omega) (by decide) rfl dX2_voted_25 ?_
        exact k_reti X hr hlocks hP hS dX2_voted_26 (by simp only [pVoted, ix_some hj_2 (show gn G < 2 ^ 31 by omega), ixE_some hj_11] <;> rfl)
      · exact absurd c_14 (by decide)
    · subst hr_11
      refine lv_if_ne (tgt := 20) hx hb dX2_voted_14 (by decide) (fun c_14 => ?_) (fun c_14 => ?_)
      · exact absurd rfl c_14
      · refine lv_bipush (v := -2) hx hb dX2_voted_17 (by decide) ?_
        exact k_reti X hr hlocks hP hS dX2_voted_19 (by simp only [pVoted, ix_some hj_2 (show gn G < 2 ^ 31 by omega), ixE_none hz_11] <;> rfl)
  · subst hr_2
    refine k_qn ?_
    refine lv_astore_nN (lv' := [(3, .null), (0, .ref (gL G 0)), (1, .int (x)), (2, .int (y))]) hx hb dX2_voted_5 rfl hl (by decide) rfl (fun ls hl => ?_)
    refine lv_aload_nN hx hb dX2_voted_6 rfl (lv_at hl 0 rfl) ?_
    refine lv_ifnullN (tgt := 17) hx hb dX2_voted_7 (by decide) ?_
    refine lv_bipush (v := -2) hx hb dX2_voted_17 (by decide) ?_
    exact k_reti X hr hlocks hP hS dX2_voted_19 (by simp only [pVoted, ix_none hz_2 (show gn G < 2 ^ 31 by omega)] <;> rfl)

set_option maxHeartbeats 4000000 in
set_option maxRecDepth 100000 in
theorem m2_reach (l : Launch) (G : kG) (u : CS) (hL : lay G) (hk : okC G u) (x y : Int32) : KMi l G (AC G) (wC G) yX2_reach cX2_reach 4 (Option.some FieldType.int) ({ frames := 1, cells := 0, slots := 0, locals := 21 }) [.ref (gL G 0), .int (x), .int (y)] u (fun r u' => pReach (gn G) u x y = (r, u')) := by
  refine K_of (by decide) (Nat.le_of_ble_eq_true rfl) ?_
  intro p e s m below meth c X hr hlocks hnm hK hP ls hl
  have hx := X.1
  have hb := X.2.1
  have hown := X.2.2.2.1
  have hts := X.2.2.2.2
  have hS : va_S (AC G) s.heap s.heap [] := va_S.rf
  have hl : lv_has ls 4 [(0, .ref (gL G 0)), (1, .int (x)), (2, .int (y))] := hl
  obtain ⟨kn4, kn10, kT1, kT61, kP40, kLd, kPar, kEp, kHt, kFc, kVf, kTp, kHf⟩ := id hk
  refine lv_aload_n hx hb dX2_reach_0 rfl (lv_at hl 0 rfl) ?_
  refine lv_iload_n hx hb dX2_reach_1 rfl (lv_at hl 1 rfl) ?_
  refine k_cq (k_runV (As := [.int (x)]) (rest := []) X hK hP (wC_g G u (k := 0) (by decide)) rfl (m2_nodeAt l G u hL (hk) x) ⟨rfl, rfl⟩ tw_1_165 tw_1_167 tw_0_0 tw_1_1 tw_1_168 ⟨by decide +kernel, by decide +kernel, (by decide +kernel : (parseMethodDescriptor yX2_nodeAt.desc).map (fun d => d.parameters.length) = some 1)⟩ ⟨Nat.le_of_ble_eq_true rfl, Nat.le_of_ble_eq_true rfl⟩ hl.1 rfl (Nat.le_of_ble_eq_true rfl) ⟨Nat.zero_le _, Nat.zero_le _⟩ dX2_reach_2) hS (fun r_2 u_2 H locs hq_2 hP hS => ?_)
  have hP := k_su hq_2.1 hP
  rcases hq_2.2 with ⟨j_2, hj_2, hx_2, hr_2⟩ | ⟨hz_2, hr_2⟩
  · subst hx_2
    subst hr_2
    refine k_qs ?_
    refine lv_astore_n (lv' := [(3, .ref (gL G (11 + 5 * j_2))), (0, .ref (gL G 0)), (1, .int (nI j_2)), (2, .int (y))]) hx hb dX2_reach_5 rfl hl (by decide) rfl (fun ls hl => ?_)
    refine lv_aload_n hx hb dX2_reach_6 rfl (lv_at hl 0 rfl) ?_
    refine lv_ifnonnull (tgt := 13) hx hb dX2_reach_7 (by decide) ?_
    refine lv_iload_n hx hb dX2_reach_13 rfl (lv_at hl 3 rfl) ?_
    rcases sw3 y with hsw | hsw | hsw | hsw
    · subst hsw
      refine lv_tableIn (off := 26) (tgt := 40) hx hb dX2_reach_14 (by decide) (by decide) (by decide +kernel) (by decide) ?_
      refine lv_aload_n hx hb dX2_reach_40 rfl (lv_at hl 1 rfl) ?_
      refine k_get (v := .ref (gL G 3)) X hK inX2 rfl hP (wC_g G u (k := 0) (by decide)) 0 (by decide) tw_1_139 rfl dX2_reach_41 ?_
      refine k_gn (v := .ref (gL G 7)) X hK inX0 rfl hP (wC_g G u (k := 3) (by decide)) 3 (by decide) ntw_1_39 rfl dX2_reach_44 ?_
      refine lv_aload_n hx hb dX2_reach_47 rfl (lv_at hl 0 rfl) ?_
      refine k_gn (v := .int (nI ((xTp u.2) j_2))) X hK inX1 rfl hP (wC_n0 G u hj_2) 14 (by decide) ntw_1_103 rfl dX2_reach_48 ?_
      have hTj := kTp j_2
      refine k_ild (v := nI (mHt u.1 ((xTp u.2) j_2))) X hK hP (wC_g G u (k := 7) (by decide)) (by omega) (by decide) rfl dX2_reach_51 ?_
      exact k_reti X hr hlocks hP hS dX2_reach_52 (by simp only [pReach, ix_some hj_2 (show gn G < 2 ^ 31 by omega), show ix 3 (nI 0) = some 0 from by decide +kernel] <;> rfl)
    · subst hsw
      refine lv_tableIn (off := 39) (tgt := 53) hx hb dX2_reach_14 (by decide) (by decide) (by decide +kernel) (by decide) ?_
      refine lv_aload_n hx hb dX2_reach_53 rfl (lv_at hl 0 rfl) ?_
      refine k_gn (v := .int (nI ((xTp u.2) j_2))) X hK inX1 rfl hP (wC_n0 G u hj_2) 14 (by decide) ntw_1_103 rfl dX2_reach_54 ?_
      exact k_reti X hr hlocks hP hS dX2_reach_57 (by simp only [pReach, ix_some hj_2 (show gn G < 2 ^ 31 by omega), show ix 3 (nI 1) = some 1 from by decide +kernel] <;> rfl)
    · subst hsw
      refine lv_tableIn (off := 44) (tgt := 58) hx hb dX2_reach_14 (by decide) (by decide) (by decide +kernel) (by decide) ?_
      refine lv_aload_n hx hb dX2_reach_58 rfl (lv_at hl 0 rfl) ?_
      refine k_gn (v := .int (nI ((xHf u.2) j_2))) X hK inX1 rfl hP (wC_n0 G u hj_2) 15 (by decide) ntw_1_105 rfl dX2_reach_59 ?_
      exact k_reti X hr hlocks hP hS dX2_reach_62 (by simp only [pReach, ix_some hj_2 (show gn G < 2 ^ 31 by omega), show ix 3 (nI 2) = some 2 from by decide +kernel] <;> rfl)
    · refine lv_tableOut (tgt := 63) hx hb dX2_reach_14 (sw_out hsw (by decide)) (by decide) ?_
      refine lv_bipush (v := -2) hx hb dX2_reach_63 (by decide) ?_
      exact k_reti X hr hlocks hP hS dX2_reach_65 (by simp only [pReach, ix_some hj_2 (show gn G < 2 ^ 31 by omega), ix_none hsw (show 3 < 2 ^ 31 by decide)] <;> rfl)
  · subst hr_2
    refine k_qn ?_
    refine lv_astore_nN (lv' := [(3, .null), (0, .ref (gL G 0)), (1, .int (x)), (2, .int (y))]) hx hb dX2_reach_5 rfl hl (by decide) rfl (fun ls hl => ?_)
    refine lv_aload_nN hx hb dX2_reach_6 rfl (lv_at hl 0 rfl) ?_
    refine lv_ifnonnullN hx hb dX2_reach_7 ?_
    refine lv_bipush (v := -2) hx hb dX2_reach_10 (by decide) ?_
    exact k_reti X hr hlocks hP hS dX2_reach_12 (by simp only [pReach, ix_none hz_2 (show gn G < 2 ^ 31 by omega)] <;> rfl)

set_option maxHeartbeats 4000000 in
set_option maxRecDepth 100000 in
theorem m2_ledger (l : Launch) (G : kG) (u : CS) (hL : lay G) (hk : okC G u) (x y : Int32) : KMi l G (AC G) (wC G) yX2_ledger cX2_ledger 10 (Option.some FieldType.int) ({ frames := 2, cells := 0, slots := 0, locals := 45 }) [.ref (gL G 0), .int (x), .int (y)] u (fun r u' => pLedger (gn G) u x y = (r, u')) := by
  refine K_of (by decide) (Nat.le_of_ble_eq_true rfl) ?_
  intro p e s m below meth c X hr hlocks hnm hK hP ls hl
  have hx := X.1
  have hb := X.2.1
  have hown := X.2.2.2.1
  have hts := X.2.2.2.2
  have hS : va_S (AC G) s.heap s.heap [] := va_S.rf
  have hl : lv_has ls 10 [(0, .ref (gL G 0)), (1, .int (x)), (2, .int (y))] := hl
  obtain ⟨kn4, kn10, kT1, kT61, kP40, kLd, kPar, kEp, kHt, kFc, kVf, kTp, kHf⟩ := id hk
  refine lv_aload_n hx hb dX2_ledger_0 rfl (lv_at hl 0 rfl) ?_
  refine lv_iload_n hx hb dX2_ledger_1 rfl (lv_at hl 1 rfl) ?_
  refine k_cq (k_runV (As := [.int (x)]) (rest := []) X hK hP (wC_g G u (k := 0) (by decide)) rfl (m2_nodeAt l G u hL (hk) x) ⟨rfl, rfl⟩ tw_1_165 tw_1_167 tw_0_0 tw_1_1 tw_1_168 ⟨by decide +kernel, by decide +kernel, (by decide +kernel : (parseMethodDescriptor yX2_nodeAt.desc).map (fun d => d.parameters.length) = some 1)⟩ ⟨Nat.le_of_ble_eq_true rfl, Nat.le_of_ble_eq_true rfl⟩ hl.1 rfl (Nat.le_of_ble_eq_true rfl) ⟨Nat.zero_le _, Nat.zero_le _⟩ dX2_ledger_2) hS (fun r_2 u_2 H locs hq_2 hP hS => ?_)
  have hP := k_su hq_2.1 hP
  rcases hq_2.2 with ⟨j_2, hj_2, hx_2, hr_2⟩ | ⟨hz_2, hr_2⟩
  · subst hx_2
    subst hr_2
    refine k_qs ?_
    refine lv_astore_n (lv' := [(3, .ref (gL G (11 + 5 * j_2))), (0, .ref (gL G 0)), (1, .int (nI j_2)), (2, .int (y))]) hx hb dX2_ledger_5 rfl hl (by decide) rfl (fun ls hl => ?_)
    refine lv_aload_n hx hb dX2_ledger_6 rfl (lv_at hl 0 rfl) ?_
    refine lv_ifnonnull (tgt := 13) hx hb dX2_ledger_7 (by decide) ?_
    refine lv_aload_n hx hb dX2_ledger_13 rfl (lv_at hl 1 rfl) ?_
    refine k_get (v := .ref (gL G 3)) X hK inX2 rfl hP (wC_g G u (k := 0) (by decide)) 0 (by decide) tw_1_139 rfl dX2_ledger_14 ?_
    refine k_gn (v := .ref (gL G 9)) X hK inX0 rfl hP (wC_g G u (k := 3) (by decide)) 5 (by decide) ntw_1_44 rfl dX2_ledger_17 ?_
    refine lv_aload_n hx hb dX2_ledger_20 rfl (lv_at hl 0 rfl) ?_
    refine k_gn (v := .int (nI ((xHf u.2) j_2))) X hK inX1 rfl hP (wC_n0 G u hj_2) 15 (by decide) ntw_1_105 rfl dX2_ledger_21 ?_
    have hHj := kHf j_2
    refine k_lld (v := eL (xCh u.2 ((xHf u.2) j_2))) X hK hP (wC_g G u (k := 9) (by decide)) (by omega) (by decide) rfl dX2_ledger_24 ?_
    refine lv_lstore (lv' := [(4, .long (eL (xCh u.2 ((xHf u.2) j_2)))), (3, .ref (gL G (11 + 5 * j_2))), (0, .ref (gL G 0)), (1, .int (nI j_2)), (2, .int (y))]) hx hb dX2_ledger_25 hl (by decide) rfl (fun ls hl => ?_)
    refine lv_iconst (v := nI 0) hx hb dX2_ledger_27 (by decide) ?_
    refine lv_istore (lv' := [(6, .int (nI 0)), (4, .long (eL (xCh u.2 ((xHf u.2) j_2)))), (3, .ref (gL G (11 + 5 * j_2))), (0, .ref (gL G 0)), (1, .int (nI j_2)), (2, .int (y))]) hx hb dX2_ledger_28 hl (by decide) rfl (fun ls hl => ?_)
    refine lv_iload_n hx hb dX2_ledger_30 rfl (lv_at hl 5 rfl) ?_
    refine lv_istore (lv' := [(7, .int (y)), (6, .int (nI 0)), (4, .long (eL (xCh u.2 ((xHf u.2) j_2)))), (3, .ref (gL G (11 + 5 * j_2))), (0, .ref (gL G 0)), (1, .int (nI j_2)), (2, .int (y))]) hx hb dX2_ledger_31 hl (by decide) rfl (fun ls hl => ?_)
    refine lv_iconst (v := nI 0) hx hb dX2_ledger_33 (by decide) ?_
    refine lv_istore (lv' := [(8, .int (nI 0)), (7, .int (y)), (6, .int (nI 0)), (4, .long (eL (xCh u.2 ((xHf u.2) j_2)))), (3, .ref (gL G (11 + 5 * j_2))), (0, .ref (gL G 0)), (1, .int (nI j_2)), (2, .int (y))]) hx hb dX2_ledger_34 hl (by decide) rfl (fun ls hl => ?_)
    by_cases hy0 : y < 0
    · skip
      refine lv_iload hx hb dX2_ledger_36 (lv_at hl 0 rfl) ?_
      refine lv_aload_n hx hb dX2_ledger_38 rfl (lv_at hl 5 rfl) ?_
      refine k_get (v := .ref (gL G 3)) X hK inX2 rfl hP (wC_g G u (k := 0) (by decide)) 0 (by decide) tw_1_139 rfl dX2_ledger_39 ?_
      refine k_gn (v := .int (nI (mT u.1))) X hK inX0 rfl hP (wC_g G u (k := 3) (by decide)) 7 (by decide) ntw_1_49 rfl dX2_ledger_42 ?_
      refine lv_icmp_ge (tgt := 121) hx hb dX2_ledger_45 (by decide) (fun c_45 => ?_) (fun c_45 => ?_)
      · have c_45 : (mT u.1) ≤ 0 := cLe c_45 (by omega) (by omega)
        refine lv_iconst (v := -1) hx hb dX2_ledger_121 (by decide) ?_
        exact k_reti X hr hlocks hP hS dX2_ledger_122 (by simp only [pLedger, ix_some hj_2 (show gn G < 2 ^ 31 by omega)]; rw [if_pos hy0])
      · have c_45 : 0 < (mT u.1) := cNle c_45 (by omega) (by omega)
        refine lv_iload hx hb dX2_ledger_48 (lv_at hl 1 rfl) ?_
        refine lv_if_lt (tgt := 121) hx hb dX2_ledger_50 (by decide) (fun c_50 => ?_) (fun c_50 => ?_)
        · refine lv_iconst (v := -1) hx hb dX2_ledger_121 (by decide) ?_
          exact k_reti X hr hlocks hP hS dX2_ledger_122 (by simp only [pLedger, ix_some hj_2 (show gn G < 2 ^ 31 by omega)]; rw [if_pos hy0])
        · exact absurd hy0 c_50
    · obtain ⟨k, hk31, rfl⟩ := nI_of hy0
      have loop_36 : ∀ (d_36 : Nat) (b : Nat) (ah : Int32) (lf : Nat), mT u.1 - b = d_36 → (b ≤ mT u.1) → (lf < 2 ^ 31) → (ldg u.1 (xCh u.2 (xHf u.2 j_2)) (mT u.1) 0 0 k = ldg u.1 (xCh u.2 (xHf u.2 j_2)) (mT u.1 - b) b ah lf) → ∀ (H : Heap) (locs : List Loc) (ls : Array Slot), va_P (gD G) vwCl ((wC G) u) H → va_S (AC G) s.heap H locs → lv_has ls 10 [(0, .ref (gL G 0)), (1, .int (nI j_2)), (2, .int (nI k)), (3, .ref (gL G (11 + 5 * j_2))), (4, .long (eL (xCh u.2 (xHf u.2 j_2)))), (6, .int (ah)), (7, .int (nI lf)), (8, .int (nI b))] → W p l e ({ frames := 2, cells := 0, slots := 0, locals := 45 } : Room) s m ([.ref (gL G 0), .int ((nI j_2)), .int ((nI k))] : List Value).toArray below meth c H locs 0 0 (MQ below (va_Qi (fun r u' => pLedger (gn G) u (nI j_2) (nI k) = (r, u')) (KB G (wC G)) (AC G)) ([.ref (gL G 0), .int ((nI j_2)), .int ((nI k))] : List Value).toArray s 0 0 (AC G)) (F0 m 36 ls []) := by
        intro d_36
        induction d_36 using Nat.strongRecOn with
        | ind d_36 ih_36 =>
          intro b ah lf hd_36 hbT hlf hres H locs ls hP hS hl
          refine lv_iload hx hb dX2_ledger_36 (lv_at hl 7 rfl) ?_
          refine lv_aload_n hx hb dX2_ledger_38 rfl (lv_at hl 0 rfl) ?_
          refine k_get (v := .ref (gL G 3)) X hK inX2 rfl hP (wC_g G u (k := 0) (by decide)) 0 (by decide) tw_1_139 rfl dX2_ledger_39 ?_
          refine k_gn (v := .int (nI (mT u.1))) X hK inX0 rfl hP (wC_g G u (k := 3) (by decide)) 7 (by decide) ntw_1_49 rfl dX2_ledger_42 ?_
          refine lv_icmp_ge (tgt := 121) hx hb dX2_ledger_45 (by decide) (fun c_45 => ?_) (fun c_45 => ?_)
          · have c_45 : (mT u.1) ≤ b := cLe c_45 (by omega) (by omega)
            refine lv_iconst (v := -1) hx hb dX2_ledger_121 (by decide) ?_
            exact k_reti X hr hlocks hP hS dX2_ledger_122 (by simp only [pLedger, ix_some hj_2 (show gn G < 2 ^ 31 by omega)]; rw [if_neg hy0, nI_toInt hk31, Int.toNat_natCast, hres, show mT u.1 - b = 0 by omega, ldg])
          · have c_45 : b < (mT u.1) := cNle c_45 (by omega) (by omega)
            refine lv_iload hx hb dX2_ledger_48 (lv_at hl 6 rfl) ?_
            refine lv_if_lt (tgt := 121) hx hb dX2_ledger_50 (by decide) (fun c_50 => ?_) (fun c_50 => ?_)
            · have c_50 : lf < 0 := czLt c_50 (by omega) (by omega)
              exact absurd c_50 (Nat.not_lt_zero _)
            · have c_50 : 0 ≤ lf := czNlt c_50 (by omega) (by omega)
              refine lv_lload hx hb dX2_ledger_53 (lv_at hl 4 rfl) ?_
              refine lv_iload hx hb dX2_ledger_55 (lv_at hl 7 rfl) ?_
              refine k_ci (k_runS (As := [.long (eL (xCh u.2 (xHf u.2 j_2))), .int (nI b)]) (rest := []) X hK hP (m2_holds l G (AC G) (wC G) u (eL (xCh u.2 (xHf u.2 j_2))) (k := b) (by omega)) ⟨rfl, rfl⟩ tw_1_235 tw_1_211 tw_1_1 tw_1_212 ⟨by decide +kernel, by decide +kernel, (by decide +kernel : (parseMethodDescriptor yX2_holds.desc).map (fun d => d.parameters.length) = some 2)⟩ ⟨Nat.le_of_ble_eq_true rfl, Nat.le_of_ble_eq_true rfl⟩ hl.1 rfl (Nat.le_of_ble_eq_true rfl) ⟨Nat.zero_le _, Nat.zero_le _⟩ dX2_ledger_57) hS (fun r_57 u_57 H locs hq_57 hP hS => ?_)
              have hP := k_su hq_57.2 hP
              refine k_ti (y := bI (xCh u.2 (xHf u.2 j_2) b)) (hq_57.1.trans (congrArg bI (tL_eL _ (by omega)))) ?_
              refine lv_if_eq (tgt := 115) hx hb dX2_ledger_60 (by decide) (fun c_60 => ?_) (fun c_60 => ?_)
              · have c_60 : (xCh u.2 (xHf u.2 j_2) b) = false := (bI_eq0 _).mp c_60
                refine lv_iinc (v := nI (b + 1)) (lv' := [(8, .int (nI (b + 1))), (0, .ref (gL G 0)), (1, .int (nI j_2)), (2, .int (nI k)), (3, .ref (gL G (11 + 5 * j_2))), (4, .long (eL (xCh u.2 (xHf u.2 j_2)))), (6, .int (ah)), (7, .int (nI lf))]) hx hb dX2_ledger_115 hl (k := 7) rfl (nI_add b 1) (by decide) rfl (fun ls hl => ?_)
                refine lv_goto (tgt := 36) hx hb dX2_ledger_118 (by decide) ?_
                exact ih_36 (mT u.1 - (b + 1)) (by omega) (b + 1) ah lf rfl (by omega) (by omega) (by rw [hres, show mT u.1 - b = (mT u.1 - (b + 1)) + 1 by omega, ldg, if_neg (by rw [c_60]; decide)]) _ _ _ hP hS (lv_sub hl [1, 2, 3, 4, 5, 6, 7, 0] rfl)
              · have c_60 : (xCh u.2 (xHf u.2 j_2) b) = true := (bI_ne0 _).mp c_60
                refine lv_aload_n hx hb dX2_ledger_63 rfl (lv_at hl 0 rfl) ?_
                refine k_get (v := .ref (gL G 3)) X hK inX2 rfl hP (wC_g G u (k := 0) (by decide)) 0 (by decide) tw_1_139 rfl dX2_ledger_64 ?_
                refine k_gn (v := .ref (gL G 6)) X hK inX0 rfl hP (wC_g G u (k := 3) (by decide)) 2 (by decide) ntw_1_36 rfl dX2_ledger_67 ?_
                refine lv_iload hx hb dX2_ledger_70 (lv_at hl 7 rfl) ?_
                refine k_ild (v := mLo u.1 b) X hK hP (wC_g G u (k := 6) (by decide)) (by omega) (by decide) rfl dX2_ledger_72 ?_
                refine lv_iload hx hb dX2_ledger_73 (lv_at hl 5 rfl) ?_
                refine lv_iconst (v := -1) hx hb dX2_ledger_75 (by decide) ?_
                refine lv_ixor hx hb dX2_ledger_76 ?_
                refine lv_iand hx hb dX2_ledger_77 ?_
                obtain ⟨fr, hfr⟩ : ∃ fr, mLo u.1 b &&& (ah ^^^ (-1)) = fr := ⟨_, rfl⟩
                refine k_ti hfr ?_
                have hcf := cnt_le (tI fr) 32
                refine lv_istore (lv' := [(9, .int (fr)), (0, .ref (gL G 0)), (1, .int (nI j_2)), (2, .int (nI k)), (3, .ref (gL G (11 + 5 * j_2))), (4, .long (eL (xCh u.2 (xHf u.2 j_2)))), (6, .int (ah)), (7, .int (nI lf)), (8, .int (nI b))]) hx hb dX2_ledger_78 hl (by decide) rfl (fun ls hl => ?_)
                refine lv_iload hx hb dX2_ledger_80 (lv_at hl 7 rfl) ?_
                refine lv_iload hx hb dX2_ledger_82 (lv_at hl 0 rfl) ?_
                refine k_ci (k_runS (As := [.int (fr)]) (rest := [.int (nI lf)]) X hK hP (mJ_bc32 l G (AC G) (wC G) u fr) ⟨rfl, rfl⟩ tw_2_66 tw_1_214 tw_1_7 tw_1_215 ⟨by decide +kernel, by decide +kernel, (by decide +kernel : (parseMethodDescriptor yJ6_bitCount_0f7a4.desc).map (fun d => d.parameters.length) = some 1)⟩ ⟨Nat.le_of_ble_eq_true rfl, Nat.le_of_ble_eq_true rfl⟩ hl.1 rfl (Nat.le_of_ble_eq_true rfl) ⟨Nat.zero_le _, Nat.zero_le _⟩ dX2_ledger_84) hS (fun r_84 u_84 H locs hq_84 hP hS => ?_)
                have hP := k_su hq_84.2 hP
                refine k_ti hq_84.1 ?_
                refine lv_icmp_ge (tgt := 98) hx hb dX2_ledger_87 (by decide) (fun c_87 => ?_) (fun c_87 => ?_)
                · have c_87 : (cnt (tI fr) 32) ≤ lf := cLe c_87 (by omega) (by omega)
                  refine lv_iload hx hb dX2_ledger_98 (lv_at hl 7 rfl) ?_
                  refine lv_iload hx hb dX2_ledger_100 (lv_at hl 0 rfl) ?_
                  refine k_ci (k_runS (As := [.int (fr)]) (rest := [.int (nI lf)]) X hK hP (mJ_bc32 l G (AC G) (wC G) u fr) ⟨rfl, rfl⟩ tw_2_66 tw_1_214 tw_1_7 tw_1_215 ⟨by decide +kernel, by decide +kernel, (by decide +kernel : (parseMethodDescriptor yJ6_bitCount_0f7a4.desc).map (fun d => d.parameters.length) = some 1)⟩ ⟨Nat.le_of_ble_eq_true rfl, Nat.le_of_ble_eq_true rfl⟩ hl.1 rfl (Nat.le_of_ble_eq_true rfl) ⟨Nat.zero_le _, Nat.zero_le _⟩ dX2_ledger_102) hS (fun r_102 u_102 H locs hq_102 hP hS => ?_)
                  have hP := k_su hq_102.2 hP
                  refine k_ti hq_102.1 ?_
                  refine lv_isub hx hb dX2_ledger_105 ?_
                  refine k_ti (pk_sub c_87) ?_
                  refine lv_istore (lv' := [(7, .int (nI (lf - cnt (tI fr) 32))), (9, .int (fr)), (0, .ref (gL G 0)), (1, .int (nI j_2)), (2, .int (nI k)), (3, .ref (gL G (11 + 5 * j_2))), (4, .long (eL (xCh u.2 (xHf u.2 j_2)))), (6, .int (ah)), (8, .int (nI b))]) hx hb dX2_ledger_106 hl (by decide) rfl (fun ls hl => ?_)
                  refine lv_iload hx hb dX2_ledger_108 (lv_at hl 7 rfl) ?_
                  refine lv_iload hx hb dX2_ledger_110 (lv_at hl 1 rfl) ?_
                  refine lv_ior hx hb dX2_ledger_112 ?_
                  refine lv_istore (lv' := [(6, .int (ah ||| fr)), (7, .int (nI (lf - cnt (tI fr) 32))), (9, .int (fr)), (0, .ref (gL G 0)), (1, .int (nI j_2)), (2, .int (nI k)), (3, .ref (gL G (11 + 5 * j_2))), (4, .long (eL (xCh u.2 (xHf u.2 j_2)))), (8, .int (nI b))]) hx hb dX2_ledger_113 hl (by decide) rfl (fun ls hl => ?_)
                  refine lv_iinc (v := nI (b + 1)) (lv' := [(8, .int (nI (b + 1))), (6, .int (ah ||| fr)), (7, .int (nI (lf - cnt (tI fr) 32))), (9, .int (fr)), (0, .ref (gL G 0)), (1, .int (nI j_2)), (2, .int (nI k)), (3, .ref (gL G (11 + 5 * j_2))), (4, .long (eL (xCh u.2 (xHf u.2 j_2))))]) hx hb dX2_ledger_115 hl (k := 8) rfl (nI_add b 1) (by decide) rfl (fun ls hl => ?_)
                  refine lv_goto (tgt := 36) hx hb dX2_ledger_118 (by decide) ?_
                  exact ih_36 (mT u.1 - (b + 1)) (by omega) (b + 1) (ah ||| fr) (lf - cnt (tI fr) 32) rfl (by omega) (by omega) (by rw [hres, show mT u.1 - b = (mT u.1 - (b + 1)) + 1 by omega, ldg, if_pos c_60, hfr, if_neg (by omega)]) _ _ _ hP hS (lv_sub hl [4, 5, 6, 7, 8, 1, 2, 0] rfl)
                · have c_87 : lf < (cnt (tI fr) 32) := cNle c_87 (by omega) (by omega)
                  refine lv_iload hx hb dX2_ledger_90 (lv_at hl 0 rfl) ?_
                  refine lv_iload hx hb dX2_ledger_92 (lv_at hl 7 rfl) ?_
                  refine k_ci (k_runS (As := [.int (fr), .int (nI lf)]) (rest := []) X hK hP (m2_wishAt l G (AC G) (wC G) u fr (k := lf) (by omega)) ⟨rfl, rfl⟩ tw_2_107 tw_2_108 tw_1_1 tw_2_109 ⟨by decide +kernel, by decide +kernel, (by decide +kernel : (parseMethodDescriptor yX2_wishAt.desc).map (fun d => d.parameters.length) = some 2)⟩ ⟨Nat.le_of_ble_eq_true rfl, Nat.le_of_ble_eq_true rfl⟩ hl.1 rfl (Nat.le_of_ble_eq_true rfl) ⟨Nat.zero_le _, Nat.zero_le _⟩ dX2_ledger_94) hS (fun r_94 u_94 H locs hq_94 hP hS => ?_)
                  have hP := k_su hq_94.2 hP
                  obtain ⟨i, hi, hri, hti, hci⟩ := (hq_94.1).resolve_right (fun h => absurd h.2 (by omega))
                  clear hq_94
                  refine k_ti hri ?_
                  exact k_reti X hr hlocks hP hS dX2_ledger_97 (by simp only [pLedger, ix_some hj_2 (show gn G < 2 ^ 31 by omega)]; rw [if_neg hy0, nI_toInt hk31, Int.toNat_natCast, hres, show mT u.1 - b = (mT u.1 - (b + 1)) + 1 by omega, ldg, if_pos c_60, hfr, if_pos c_87, watF_eq hi hti hci])
      exact loop_36 _ 0 0 k rfl (Nat.zero_le _) (hk31) (rfl) _ _ _ hP hS (lv_sub hl [5, 6, 7, 4, 3, 2, 1, 0] rfl)
  · subst hr_2
    refine k_qn ?_
    refine lv_astore_nN (lv' := [(3, .null), (0, .ref (gL G 0)), (1, .int (x)), (2, .int (y))]) hx hb dX2_ledger_5 rfl hl (by decide) rfl (fun ls hl => ?_)
    refine lv_aload_nN hx hb dX2_ledger_6 rfl (lv_at hl 0 rfl) ?_
    refine lv_ifnonnullN hx hb dX2_ledger_7 ?_
    refine lv_bipush (v := -2) hx hb dX2_ledger_10 (by decide) ?_
    exact k_reti X hr hlocks hP hS dX2_ledger_12 (by simp only [pLedger, ix_none hz_2 (show gn G < 2 ^ 31 by omega)] <;> rfl)

set_option maxHeartbeats 4000000 in
set_option maxRecDepth 100000 in
theorem m2_agree (l : Launch) (G : kG) (u : CS) (hL : lay G) (hk : okC G u) : KMi l G (AC G) (wC G) yX2_agree cX2_agree 9 (Option.some FieldType.int) ({ frames := 2, cells := 0, slots := 0, locals := 44 }) [.ref (gL G 0)] u (fun r u' => pAgree (gn G) u = (r, u')) := by
  refine K_of (by decide) (Nat.le_of_ble_eq_true rfl) ?_
  intro p e s m below meth c X hr hlocks hnm hK hP ls hl
  have hx := X.1
  have hb := X.2.1
  have hown := X.2.2.2.1
  have hts := X.2.2.2.2
  have hS : va_S (AC G) s.heap s.heap [] := va_S.rf
  have hl : lv_has ls 9 [(0, .ref (gL G 0))] := hl
  obtain ⟨kn4, kn10, kT1, kT61, kP40, kLd, kPar, kEp, kHt, kFc, kVf, kTp, kHf⟩ := id hk
  refine lv_aload_n hx hb dX2_agree_0 rfl (lv_at hl 0 rfl) ?_
  refine k_get (v := .ref (gL G 1)) X hK inX2 rfl hP (wC_g G u (k := 0) (by decide)) 1 (by decide) tw_1_140 rfl dX2_agree_1 ?_
  refine lv_astore_n (lv' := [(1, .ref (gL G 1)), (0, .ref (gL G 0))]) hx hb dX2_agree_4 rfl hl (by decide) rfl (fun ls hl => ?_)
  refine lv_aload_n hx hb dX2_agree_5 rfl (lv_at hl 0 rfl) ?_
  refine k_len X hK hP (wC_g G u (k := 1) (by decide)) dX2_agree_6 ?_
  refine lv_istore_n (lv' := [(2, .int (nI (gn G))), (1, .ref (gL G 1)), (0, .ref (gL G 0))]) hx hb dX2_agree_7 rfl hl (by decide) rfl (fun ls hl => ?_)
  refine lv_iconst (v := nI 0) hx hb dX2_agree_8 (by decide) ?_
  refine lv_istore_n (lv' := [(3, .int (nI 0)), (2, .int (nI (gn G))), (1, .ref (gL G 1)), (0, .ref (gL G 0))]) hx hb dX2_agree_9 rfl hl (by decide) rfl (fun ls hl => ?_)
  have loop_10 : ∀ (d_10 : Nat) (i : Nat), gn G - i = d_10 → (i ≤ gn G) → (∀ a, a < i → ∀ b, b < gn G → (mFa u.1 a || (mFa u.1 b || lineB u.2 (xHf u.2 a) (xHf u.2 b))) = true) → ∀ (H : Heap) (locs : List Loc) (ls : Array Slot), va_P (gD G) vwCl ((wC G) u) H → va_S (AC G) s.heap H locs → lv_has ls 9 [(0, .ref (gL G 0)), (1, .ref (gL G 1)), (2, .int (nI (gn G))), (3, .int (nI i))] → W p l e ({ frames := 2, cells := 0, slots := 0, locals := 44 } : Room) s m ([.ref (gL G 0)] : List Value).toArray below meth c H locs 0 0 (MQ below (va_Qi (fun r u' => pAgree (gn G) u = (r, u')) (KB G (wC G)) (AC G)) ([.ref (gL G 0)] : List Value).toArray s 0 0 (AC G)) (F0 m 10 ls []) := by
    intro d_10
    induction d_10 using Nat.strongRecOn with
    | ind d_10 ih_10 =>
      intro i hd_10 hi hall H locs ls hP hS hl
      refine lv_iload_n hx hb dX2_agree_10 rfl (lv_at hl 3 rfl) ?_
      refine lv_iload_n hx hb dX2_agree_11 rfl (lv_at hl 2 rfl) ?_
      refine lv_icmp_ge (tgt := 95) hx hb dX2_agree_12 (by decide) (fun c_12 => ?_) (fun c_12 => ?_)
      · have c_12 : (gn G) ≤ i := cLe c_12 (by omega) (by omega)
        refine lv_iconst (v := nI 1) hx hb dX2_agree_95 (by decide) ?_
        exact k_reti X hr hlocks hP hS dX2_agree_96 (by rw [pAgree, show agr (gn G) u = true from List.all_eq_true.mpr fun a ha => List.all_eq_true.mpr fun b hb => hall a (by have := List.mem_range.mp ha; omega) b (List.mem_range.mp hb)]; rfl)
      · have c_12 : i < (gn G) := cNle c_12 (by omega) (by omega)
        refine lv_aload_n hx hb dX2_agree_15 rfl (lv_at hl 1 rfl) ?_
        refine lv_iload_n hx hb dX2_agree_16 rfl (lv_at hl 3 rfl) ?_
        refine k_ald (v := gL G (11 + 5 * i)) X hK hP (wC_g G u (k := 1) (by decide)) (by omega) (by omega) rfl dX2_agree_17 ?_
        refine lv_astore (lv' := [(4, .ref (gL G (11 + 5 * i))), (0, .ref (gL G 0)), (1, .ref (gL G 1)), (2, .int (nI (gn G))), (3, .int (nI i))]) hx hb dX2_agree_18 hl (by decide) rfl (fun ls hl => ?_)
        refine lv_aload_n hx hb dX2_agree_20 rfl (lv_at hl 1 rfl) ?_
        refine k_get (v := .ref (gL G 1)) X hK inX2 rfl hP (wC_g G u (k := 0) (by decide)) 1 (by decide) tw_1_140 rfl dX2_agree_21 ?_
        refine lv_astore (lv' := [(5, .ref (gL G 1)), (4, .ref (gL G (11 + 5 * i))), (0, .ref (gL G 0)), (1, .ref (gL G 1)), (2, .int (nI (gn G))), (3, .int (nI i))]) hx hb dX2_agree_24 hl (by decide) rfl (fun ls hl => ?_)
        refine lv_aload hx hb dX2_agree_26 (lv_at hl 0 rfl) ?_
        refine k_len X hK hP (wC_g G u (k := 1) (by decide)) dX2_agree_28 ?_
        refine lv_istore (lv' := [(6, .int (nI (gn G))), (5, .ref (gL G 1)), (4, .ref (gL G (11 + 5 * i))), (0, .ref (gL G 0)), (1, .ref (gL G 1)), (2, .int (nI (gn G))), (3, .int (nI i))]) hx hb dX2_agree_29 hl (by decide) rfl (fun ls hl => ?_)
        refine lv_iconst (v := nI 0) hx hb dX2_agree_31 (by decide) ?_
        refine lv_istore (lv' := [(7, .int (nI 0)), (6, .int (nI (gn G))), (5, .ref (gL G 1)), (4, .ref (gL G (11 + 5 * i))), (0, .ref (gL G 0)), (1, .ref (gL G 1)), (2, .int (nI (gn G))), (3, .int (nI i))]) hx hb dX2_agree_32 hl (by decide) rfl (fun ls hl => ?_)
        have loop_34 : ∀ (d_34 : Nat) (k : Nat), gn G - k = d_34 → (k ≤ gn G) → (∀ b, b < k → (mFa u.1 i || (mFa u.1 b || lineB u.2 (xHf u.2 i) (xHf u.2 b))) = true) → ∀ (H : Heap) (locs : List Loc) (ls : Array Slot), va_P (gD G) vwCl ((wC G) u) H → va_S (AC G) s.heap H locs → lv_has ls 9 [(0, .ref (gL G 0)), (1, .ref (gL G 1)), (2, .int (nI (gn G))), (3, .int (nI i)), (4, .ref (gL G (11 + 5 * i))), (5, .ref (gL G 1)), (6, .int (nI (gn G))), (7, .int (nI k))] → W p l e ({ frames := 2, cells := 0, slots := 0, locals := 44 } : Room) s m ([.ref (gL G 0)] : List Value).toArray below meth c H locs 0 0 (MQ below (va_Qi (fun r u' => pAgree (gn G) u = (r, u')) (KB G (wC G)) (AC G)) ([.ref (gL G 0)] : List Value).toArray s 0 0 (AC G)) (F0 m 34 ls []) := by
          intro d_34
          induction d_34 using Nat.strongRecOn with
          | ind d_34 ih_34 =>
            intro k hd_34 hkn hrow H locs ls hP hS hl
            refine lv_iload hx hb dX2_agree_34 (lv_at hl 7 rfl) ?_
            refine lv_iload hx hb dX2_agree_36 (lv_at hl 6 rfl) ?_
            refine lv_icmp_ge (tgt := 89) hx hb dX2_agree_38 (by decide) (fun c_38 => ?_) (fun c_38 => ?_)
            · have c_38 : (gn G) ≤ k := cLe c_38 (by omega) (by omega)
              refine lv_iinc (v := nI (i + 1)) (lv' := [(3, .int (nI (i + 1))), (0, .ref (gL G 0)), (1, .ref (gL G 1)), (2, .int (nI (gn G))), (4, .ref (gL G (11 + 5 * i))), (5, .ref (gL G 1)), (6, .int (nI (gn G))), (7, .int (nI k))]) hx hb dX2_agree_89 hl (k := 3) rfl (nI_add i 1) (by decide) rfl (fun ls hl => ?_)
              refine lv_goto (tgt := 10) hx hb dX2_agree_92 (by decide) ?_
              exact ih_10 (gn G - (i + 1)) (by omega) (i + 1) rfl (by omega) (lt_s hall (fun b hb => hrow b (by omega))) _ _ _ hP hS (lv_sub hl [1, 2, 3, 0] rfl)
            · have c_38 : k < (gn G) := cNle c_38 (by omega) (by omega)
              refine lv_aload hx hb dX2_agree_41 (lv_at hl 5 rfl) ?_
              refine lv_iload hx hb dX2_agree_43 (lv_at hl 7 rfl) ?_
              refine k_ald (v := gL G (11 + 5 * k)) X hK hP (wC_g G u (k := 1) (by decide)) (by omega) (by omega) rfl dX2_agree_45 ?_
              refine lv_astore (lv' := [(8, .ref (gL G (11 + 5 * k))), (0, .ref (gL G 0)), (1, .ref (gL G 1)), (2, .int (nI (gn G))), (3, .int (nI i)), (4, .ref (gL G (11 + 5 * i))), (5, .ref (gL G 1)), (6, .int (nI (gn G))), (7, .int (nI k))]) hx hb dX2_agree_46 hl (by decide) rfl (fun ls hl => ?_)
              refine lv_aload hx hb dX2_agree_48 (lv_at hl 5 rfl) ?_
              refine k_gn (v := .int (bI ((mFa u.1) i))) X hK inX1 rfl hP (wC_n0 G u (by omega)) 3 (by decide) ntw_1_83 rfl dX2_agree_50 ?_
              refine lv_if_ne (tgt := 83) hx hb dX2_agree_53 (by decide) (fun c_53 => ?_) (fun c_53 => ?_)
              · have c_53 : ((mFa u.1) i) = true := (bI_ne0 _).mp c_53
                refine lv_iinc (v := nI (k + 1)) (lv' := [(7, .int (nI (k + 1))), (8, .ref (gL G (11 + 5 * k))), (0, .ref (gL G 0)), (1, .ref (gL G 1)), (2, .int (nI (gn G))), (3, .int (nI i)), (4, .ref (gL G (11 + 5 * i))), (5, .ref (gL G 1)), (6, .int (nI (gn G)))]) hx hb dX2_agree_83 hl (k := 8) rfl (nI_add k 1) (by decide) rfl (fun ls hl => ?_)
                refine lv_goto (tgt := 34) hx hb dX2_agree_86 (by decide) ?_
                exact ih_34 (gn G - (k + 1)) (by omega) (k + 1) rfl (by omega) (lt_s hrow (by first | (rw [c_53, Bool.true_or]; done) | (rw [c_61, Bool.true_or, Bool.or_true]; done) | (rw [lineB, c_78, Bool.or_true, Bool.or_true]))) _ _ _ hP hS (lv_sub hl [2, 3, 4, 5, 6, 7, 8, 0] rfl)
              · have c_53 : ((mFa u.1) i) = false := (bI_eq0 _).mp c_53
                refine lv_aload hx hb dX2_agree_56 (lv_at hl 0 rfl) ?_
                refine k_gn (v := .int (bI ((mFa u.1) k))) X hK inX1 rfl hP (wC_n0 G u (by omega)) 3 (by decide) ntw_1_83 rfl dX2_agree_58 ?_
                refine lv_if_ne (tgt := 83) hx hb dX2_agree_61 (by decide) (fun c_61 => ?_) (fun c_61 => ?_)
                · have c_61 : ((mFa u.1) k) = true := (bI_ne0 _).mp c_61
                  refine lv_iinc (v := nI (k + 1)) (lv' := [(7, .int (nI (k + 1))), (8, .ref (gL G (11 + 5 * k))), (0, .ref (gL G 0)), (1, .ref (gL G 1)), (2, .int (nI (gn G))), (3, .int (nI i)), (4, .ref (gL G (11 + 5 * i))), (5, .ref (gL G 1)), (6, .int (nI (gn G)))]) hx hb dX2_agree_83 hl (k := 8) rfl (nI_add k 1) (by decide) rfl (fun ls hl => ?_)
                  refine lv_goto (tgt := 34) hx hb dX2_agree_86 (by decide) ?_
                  exact ih_34 (gn G - (k + 1)) (by omega) (k + 1) rfl (by omega) (lt_s hrow (by first | (rw [c_53, Bool.true_or]; done) | (rw [c_61, Bool.true_or, Bool.or_true]; done) | (rw [lineB, c_78, Bool.or_true, Bool.or_true]))) _ _ _ hP hS (lv_sub hl [2, 3, 4, 5, 6, 7, 8, 0] rfl)
                · have c_61 : ((mFa u.1) k) = false := (bI_eq0 _).mp c_61
                  refine lv_aload_n hx hb dX2_agree_64 rfl (lv_at hl 1 rfl) ?_
                  refine lv_aload hx hb dX2_agree_65 (lv_at hl 5 rfl) ?_
                  refine k_gn (v := .int (nI ((xHf u.2) i))) X hK inX1 rfl hP (wC_n0 G u (by omega)) 15 (by decide) ntw_1_105 rfl dX2_agree_67 ?_
                  refine lv_aload hx hb dX2_agree_70 (lv_at hl 0 rfl) ?_
                  refine k_gn (v := .int (nI ((xHf u.2) k))) X hK inX1 rfl hP (wC_n0 G u (by omega)) 15 (by decide) ntw_1_105 rfl dX2_agree_72 ?_
                  have hHi := kHf i
                  have hHk := kHf k
                  refine k_ci (k_runV (As := [.int (nI ((xHf u.2) i)), .int (nI ((xHf u.2) k))]) (rest := []) X hK hP (wC_g G u (k := 0) (by decide)) rfl (m2_areInLine l G u hL (hk) (a0 := ((xHf u.2) i)) (b0 := ((xHf u.2) k)) (by omega) (by omega)) ⟨rfl, rfl⟩ tw_2_114 tw_2_116 tw_0_25 tw_1_1 tw_2_117 ⟨by decide +kernel, by decide +kernel, (by decide +kernel : (parseMethodDescriptor yX2_areInLine.desc).map (fun d => d.parameters.length) = some 2)⟩ ⟨Nat.le_of_ble_eq_true rfl, Nat.le_of_ble_eq_true rfl⟩ hl.1 rfl (Nat.le_of_ble_eq_true rfl) ⟨Nat.zero_le _, Nat.zero_le _⟩ dX2_agree_75) hS (fun r_75 u_75 H locs hq_75 hP hS => ?_)
                  have hP := k_su hq_75.2 hP
                  refine k_ti hq_75.1 ?_
                  refine lv_if_ne (tgt := 83) hx hb dX2_agree_78 (by decide) (fun c_78 => ?_) (fun c_78 => ?_)
                  · have c_78 : (xCh u.2 ((xHf u.2) i) ((xHf u.2) k) || xCh u.2 ((xHf u.2) k) ((xHf u.2) i)) = true := (bI_ne0 _).mp c_78
                    refine lv_iinc (v := nI (k + 1)) (lv' := [(7, .int (nI (k + 1))), (8, .ref (gL G (11 + 5 * k))), (0, .ref (gL G 0)), (1, .ref (gL G 1)), (2, .int (nI (gn G))), (3, .int (nI i)), (4, .ref (gL G (11 + 5 * i))), (5, .ref (gL G 1)), (6, .int (nI (gn G)))]) hx hb dX2_agree_83 hl (k := 8) rfl (nI_add k 1) (by decide) rfl (fun ls hl => ?_)
                    refine lv_goto (tgt := 34) hx hb dX2_agree_86 (by decide) ?_
                    exact ih_34 (gn G - (k + 1)) (by omega) (k + 1) rfl (by omega) (lt_s hrow (by first | (rw [c_53, Bool.true_or]; done) | (rw [c_61, Bool.true_or, Bool.or_true]; done) | (rw [lineB, c_78, Bool.or_true, Bool.or_true]))) _ _ _ hP hS (lv_sub hl [2, 3, 4, 5, 6, 7, 8, 0] rfl)
                  · have c_78 : (xCh u.2 ((xHf u.2) i) ((xHf u.2) k) || xCh u.2 ((xHf u.2) k) ((xHf u.2) i)) = false := (bI_eq0 _).mp c_78
                    refine lv_iconst (v := nI 0) hx hb dX2_agree_81 (by decide) ?_
                    exact k_reti X hr hlocks hP hS dX2_agree_82 (by rw [pAgree, show agr (gn G) u = false from by rw [Bool.eq_false_iff]; intro h; have h1 := List.all_eq_true.mp (List.all_eq_true.mp h i (List.mem_range.mpr (by omega))) k (List.mem_range.mpr (by omega)); rw [c_53, c_61, lineB, c_78] at h1; exact absurd h1 (by decide)]; rfl)
        exact loop_34 _ 0 rfl (Nat.zero_le _) (fun a h => absurd h (Nat.not_lt_zero _)) _ _ _ hP hS (lv_sub hl [4, 5, 6, 7, 3, 2, 1, 0] rfl)
  exact loop_10 _ 0 rfl (Nat.zero_le _) (fun a h => absurd h (Nat.not_lt_zero _)) _ _ _ hP hS (lv_sub hl [3, 2, 1, 0] rfl)

set_option maxHeartbeats 4000000 in
set_option maxRecDepth 100000 in
theorem m2_count (l : Launch) (G : kG) (u : CS) (hL : lay G) (hk : okC G u) (x : Int32) : KMi l G (AC G) (wC G) yX2_count cX2_count 2 (Option.some FieldType.int) ({ frames := 2, cells := 0, slots := 0, locals := 47 }) [.ref (gL G 0), .int (x)] u (fun r u' => pCount (gn G) u x = (r, u')) := by
  refine K_of (by decide) (Nat.le_of_ble_eq_true rfl) ?_
  intro p e s m below meth c X hr hlocks hnm hK hP ls hl
  have hx := X.1
  have hb := X.2.1
  have hown := X.2.2.2.1
  have hts := X.2.2.2.2
  have hS : va_S (AC G) s.heap s.heap [] := va_S.rf
  have hl : lv_has ls 2 [(0, .ref (gL G 0)), (1, .int (x))] := hl
  obtain ⟨kn4, kn10, kT1, kT61, kP40, kLd, kPar, kEp, kHt, kFc, kVf, kTp, kHf⟩ := id hk
  refine lv_iload_n hx hb dX2_count_0 rfl (lv_at hl 1 rfl) ?_
  rcases sw7 x with hsw | hsw | hsw | hsw | hsw | hsw | hsw | hsw
  · subst hsw
    refine lv_tableIn (off := 43) (tgt := 44) hx hb dX2_count_1 (by decide) (by decide) (by decide +kernel) (by decide) ?_
    refine lv_aload_n hx hb dX2_count_44 rfl (lv_at hl 0 rfl) ?_
    refine k_get (v := .ref (gL G 1)) X hK inX2 rfl hP (wC_g G u (k := 0) (by decide)) 1 (by decide) tw_1_140 rfl dX2_count_45 ?_
    refine k_len X hK hP (wC_g G u (k := 1) (by decide)) dX2_count_48 ?_
    exact k_reti X hr hlocks hP hS dX2_count_49 (by simp only [pCount, show ix 7 (nI 0) = some 0 from by decide +kernel] <;> rfl)
  · subst hsw
    refine lv_tableIn (off := 49) (tgt := 50) hx hb dX2_count_1 (by decide) (by decide) (by decide +kernel) (by decide) ?_
    refine lv_aload_n hx hb dX2_count_50 rfl (lv_at hl 0 rfl) ?_
    refine k_get (v := .int (nI (mP u.1))) X hK inX2 rfl hP (wC_g G u (k := 0) (by decide)) 3 (by decide) tw_1_142 rfl dX2_count_51 ?_
    exact k_reti X hr hlocks hP hS dX2_count_54 (by simp only [pCount, show ix 7 (nI 1) = some 1 from by decide +kernel] <;> rfl)
  · subst hsw
    refine lv_tableIn (off := 54) (tgt := 55) hx hb dX2_count_1 (by decide) (by decide) (by decide +kernel) (by decide) ?_
    refine lv_aload_n hx hb dX2_count_55 rfl (lv_at hl 0 rfl) ?_
    refine k_get (v := .ref (gL G 3)) X hK inX2 rfl hP (wC_g G u (k := 0) (by decide)) 0 (by decide) tw_1_139 rfl dX2_count_56 ?_
    refine k_gn (v := .int (nI (mT u.1))) X hK inX0 rfl hP (wC_g G u (k := 3) (by decide)) 7 (by decide) ntw_1_49 rfl dX2_count_59 ?_
    exact k_reti X hr hlocks hP hS dX2_count_62 (by simp only [pCount, show ix 7 (nI 2) = some 2 from by decide +kernel] <;> rfl)
  · subst hsw
    refine lv_tableIn (off := 62) (tgt := 63) hx hb dX2_count_1 (by decide) (by decide) (by decide +kernel) (by decide) ?_
    refine lv_aload_n hx hb dX2_count_63 rfl (lv_at hl 0 rfl) ?_
    refine k_ci (k_runV (As := []) (rest := []) X hK hP (wC_g G u (k := 0) (by decide)) rfl (m2_falseNodes l G u hL (hk)) ⟨rfl, rfl⟩ tw_2_122 tw_2_124 tw_0_26 tw_1_1 tw_2_125 ⟨by decide +kernel, by decide +kernel, (by decide +kernel : (parseMethodDescriptor yX2_falseNodes.desc).map (fun d => d.parameters.length) = some 0)⟩ ⟨Nat.le_of_ble_eq_true rfl, Nat.le_of_ble_eq_true rfl⟩ hl.1 rfl (Nat.le_of_ble_eq_true rfl) ⟨Nat.zero_le _, Nat.zero_le _⟩ dX2_count_64) hS (fun r_64 u_64 H locs hq_64 hP hS => ?_)
    have hP := k_su hq_64.2 hP
    refine k_ti hq_64.1 ?_
    exact k_reti X hr hlocks hP hS dX2_count_67 (by simp only [pCount, show ix 7 (nI 3) = some 3 from by decide +kernel] <;> rfl)
  · subst hsw
    refine lv_tableIn (off := 67) (tgt := 68) hx hb dX2_count_1 (by decide) (by decide) (by decide +kernel) (by decide) ?_
    refine lv_aload_n hx hb dX2_count_68 rfl (lv_at hl 0 rfl) ?_
    refine k_ci (k_runV (As := []) (rest := []) X hK hP (wC_g G u (k := 0) (by decide)) rfl (m2_lettersUnderWay l G u hL (hk)) ⟨rfl, rfl⟩ tw_2_56 tw_2_58 tw_0_23 tw_1_1 tw_2_59 ⟨by decide +kernel, by decide +kernel, (by decide +kernel : (parseMethodDescriptor yX2_lettersUnderWay.desc).map (fun d => d.parameters.length) = some 0)⟩ ⟨Nat.le_of_ble_eq_true rfl, Nat.le_of_ble_eq_true rfl⟩ hl.1 rfl (Nat.le_of_ble_eq_true rfl) ⟨Nat.zero_le _, Nat.zero_le _⟩ dX2_count_69) hS (fun r_69 u_69 H locs hq_69 hP hS => ?_)
    have hP := k_su hq_69.2 hP
    refine k_ti hq_69.1 ?_
    exact k_reti X hr hlocks hP hS dX2_count_72 (by simp only [pCount, show ix 7 (nI 4) = some 4 from by decide +kernel] <;> rfl)
  · subst hsw
    refine lv_tableIn (off := 72) (tgt := 73) hx hb dX2_count_1 (by decide) (by decide) (by decide +kernel) (by decide) ?_
    refine lv_aload_n hx hb dX2_count_73 rfl (lv_at hl 0 rfl) ?_
    refine k_get (v := .int (nI (mG u.1))) X hK inX2 rfl hP (wC_g G u (k := 0) (by decide)) 4 (by decide) tw_1_143 rfl dX2_count_74 ?_
    exact k_reti X hr hlocks hP hS dX2_count_77 (by simp only [pCount, show ix 7 (nI 5) = some 5 from by decide +kernel] <;> rfl)
  · subst hsw
    refine lv_tableIn (off := 77) (tgt := 78) hx hb dX2_count_1 (by decide) (by decide) (by decide +kernel) (by decide) ?_
    refine lv_aload_n hx hb dX2_count_78 rfl (lv_at hl 0 rfl) ?_
    refine k_get (v := .int (nI (mC u.1))) X hK inX2 rfl hP (wC_g G u (k := 0) (by decide)) 5 (by decide) tw_1_144 rfl dX2_count_79 ?_
    exact k_reti X hr hlocks hP hS dX2_count_82 (by simp only [pCount, show ix 7 (nI 6) = some 6 from by decide +kernel] <;> rfl)
  · refine lv_tableOut (tgt := 83) hx hb dX2_count_1 (sw_out hsw (by decide)) (by decide) ?_
    refine lv_bipush (v := -2) hx hb dX2_count_83 (by decide) ?_
    exact k_reti X hr hlocks hP hS dX2_count_85 (by simp only [pCount, ix_none hsw (show 7 < 2 ^ 31 by decide)] <;> rfl)
