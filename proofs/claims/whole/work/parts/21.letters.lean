set_option maxHeartbeats 4000000 in
set_option maxRecDepth 100000 in
theorem m2_sendProposal (l : Launch) (G : kG) (u : CS) (hL : lay G) (hk : okC G u) {b : Nat} (hbb : b ≤ 60) (to : Int32) : KMi l G (AC G) (wC G) yX2_sendProposal cX2_sendProposal 8 (Option.some FieldType.int) ({ frames := 2, cells := 0, slots := 0, locals := 44 }) [.ref (gL G 0), .int (nI b), .int (to)] u (fun r u' => r = nI (sndC u.1 (11 * b) to (gn G)) ∧ u' = (sndM u.1 (11 * b) to (gn G), u.2)) := by
  refine K_of (by decide) (Nat.le_of_ble_eq_true rfl) ?_
  intro p e s m below meth c X hr hlocks hnm hK hP ls hl
  have hx := X.1
  have hb := X.2.1
  have hown := X.2.2.2.1
  have hts := X.2.2.2.2
  have hS : va_S (AC G) s.heap s.heap [] := va_S.rf
  have hl : lv_has ls 8 [(0, .ref (gL G 0)), (1, .int (nI b)), (2, .int (to))] := hl
  obtain ⟨kn4, kn10, kT1, kT61, kP40, kLd, kPar, kEp, kHt, kFc, kVf, kTp, kHf⟩ := id hk
  refine lv_iconst (v := nI 0) hx hb dX2_sendProposal_0 (by decide) ?_
  refine lv_istore_n (lv' := [(3, .int (nI 0)), (0, .ref (gL G 0)), (1, .int (nI b)), (2, .int (to))]) hx hb dX2_sendProposal_1 rfl hl (by decide) rfl (fun ls hl => ?_)
  refine lv_aload_n hx hb dX2_sendProposal_2 rfl (lv_at hl 1 rfl) ?_
  refine k_get (v := .ref (gL G 1)) X hK inX2 rfl hP (wC_g G u (k := 0) (by decide)) 1 (by decide) tw_1_140 rfl dX2_sendProposal_3 ?_
  refine lv_astore (lv' := [(4, .ref (gL G 1)), (3, .int (nI 0)), (0, .ref (gL G 0)), (1, .int (nI b)), (2, .int (to))]) hx hb dX2_sendProposal_6 hl (by decide) rfl (fun ls hl => ?_)
  refine lv_aload hx hb dX2_sendProposal_8 (lv_at hl 0 rfl) ?_
  refine k_len X hK hP (wC_g G u (k := 1) (by decide)) dX2_sendProposal_10 ?_
  refine lv_istore (lv' := [(5, .int (nI (gn G))), (4, .ref (gL G 1)), (3, .int (nI 0)), (0, .ref (gL G 0)), (1, .int (nI b)), (2, .int (to))]) hx hb dX2_sendProposal_11 hl (by decide) rfl (fun ls hl => ?_)
  refine lv_iconst (v := nI 0) hx hb dX2_sendProposal_13 (by decide) ?_
  refine lv_istore (lv' := [(6, .int (nI 0)), (5, .int (nI (gn G))), (4, .ref (gL G 1)), (3, .int (nI 0)), (0, .ref (gL G 0)), (1, .int (nI b)), (2, .int (to))]) hx hb dX2_sendProposal_14 hl (by decide) rfl (fun ls hl => ?_)
  have loop_16 : ∀ (d_16 : Nat) (i : Nat) (M1 : MS) (k3 : Nat), gn G - i = d_16 → (i ≤ gn G) → (M1 = sndM u.1 (11 * b) to i) → (k3 = sndC u.1 (11 * b) to i) → ∀ (H : Heap) (locs : List Loc) (ls : Array Slot), va_P (gD G) vwCl ((wC G) ((M1, u.2))) H → va_S (AC G) s.heap H locs → lv_has ls 8 [(0, .ref (gL G 0)), (1, .int (nI b)), (2, .int (to)), (3, .int (nI k3)), (4, .ref (gL G 1)), (5, .int (nI (gn G))), (6, .int (nI i))] → W p l e ({ frames := 2, cells := 0, slots := 0, locals := 44 } : Room) s m ([.ref (gL G 0), .int (nI b), .int (to)] : List Value).toArray below meth c H locs 0 0 (MQ below (va_Qi (fun r u' => r = nI (sndC u.1 (11 * b) to (gn G)) ∧ u' = (sndM u.1 (11 * b) to (gn G), u.2)) (KB G (wC G)) (AC G)) ([.ref (gL G 0), .int (nI b), .int (to)] : List Value).toArray s 0 0 (AC G)) (F0 m 16 ls []) := by
    intro d_16
    induction d_16 using Nat.strongRecOn with
    | ind d_16 ih_16 =>
      intro i M1 k3 hd_16 hi hM hc H locs ls hP hS hl
      refine lv_iload hx hb dX2_sendProposal_16 (lv_at hl 6 rfl) ?_
      refine lv_iload hx hb dX2_sendProposal_18 (lv_at hl 5 rfl) ?_
      refine lv_icmp_ge (tgt := 61) hx hb dX2_sendProposal_20 (by decide) (fun c_20 => ?_) (fun c_20 => ?_)
      · have c_20 : (gn G) ≤ i := cLe c_20 (by omega) (by omega)
        refine lv_iload_n hx hb dX2_sendProposal_61 rfl (lv_at hl 3 rfl) ?_
        exact k_reti X hr hlocks hP hS dX2_sendProposal_62 ⟨by rw [hc, show i = gn G by omega], by rw [hM, show i = gn G by omega]⟩
      · have c_20 : i < (gn G) := cNle c_20 (by omega) (by omega)
        refine lv_aload hx hb dX2_sendProposal_23 (lv_at hl 4 rfl) ?_
        refine lv_iload hx hb dX2_sendProposal_25 (lv_at hl 6 rfl) ?_
        refine k_ald (v := gL G (11 + 5 * i)) X hK hP (wC_g G ((M1, u.2)) (k := 1) (by decide)) (by omega) (by omega) rfl dX2_sendProposal_27 ?_
        refine lv_astore (lv' := [(7, .ref (gL G (11 + 5 * i))), (0, .ref (gL G 0)), (1, .int (nI b)), (2, .int (to)), (3, .int (nI k3)), (4, .ref (gL G 1)), (5, .int (nI (gn G))), (6, .int (nI i))]) hx hb dX2_sendProposal_28 hl (by decide) rfl (fun ls hl => ?_)
        refine lv_iload_n hx hb dX2_sendProposal_30 rfl (lv_at hl 3 rfl) ?_
        refine lv_i2l (v := to.toInt64) hx hb dX2_sendProposal_31 rfl ?_
        refine lv_aload hx hb dX2_sendProposal_32 (lv_at hl 0 rfl) ?_
        refine k_gn (v := .int (nI i)) X hK inX1 rfl hP (wC_n0 G ((M1, u.2)) (by omega)) 0 (by decide) ntw_1_80 rfl dX2_sendProposal_34 ?_
        refine k_ci (k_runS (As := [.long (to.toInt64), .int (nI i)]) (rest := []) X hK hP (m2_holds l G (AC G) (wC G) ((M1, u.2)) to.toInt64 (k := i) (by omega)) ⟨rfl, rfl⟩ tw_1_235 tw_1_211 tw_1_1 tw_1_212 ⟨by decide +kernel, by decide +kernel, (by decide +kernel : (parseMethodDescriptor yX2_holds.desc).map (fun d => d.parameters.length) = some 2)⟩ ⟨Nat.le_of_ble_eq_true rfl, Nat.le_of_ble_eq_true rfl⟩ hl.1 rfl (Nat.le_of_ble_eq_true rfl) ⟨Nat.zero_le _, Nat.zero_le _⟩ dX2_sendProposal_37) hS (fun r_37 u_37 H locs hq_37 hP hS => ?_)
        have hP := k_su hq_37.2 hP
        refine k_ti (y := bI (tI to i)) (hq_37.1.trans (congrArg bI (tL_wide _ (by omega)))) ?_
        refine lv_if_eq (tgt := 55) hx hb dX2_sendProposal_40 (by decide) (fun c_40 => ?_) (fun c_40 => ?_)
        · have c_40 : (tI to i) = false := (bI_eq0 _).mp c_40
          refine lv_iinc (v := nI (i + 1)) (lv' := [(6, .int (nI (i + 1))), (7, .ref (gL G (11 + 5 * i))), (0, .ref (gL G 0)), (1, .int (nI b)), (2, .int (to)), (3, .int (nI k3)), (4, .ref (gL G 1)), (5, .int (nI (gn G)))]) hx hb dX2_sendProposal_55 hl (k := 7) rfl (nI_add i 1) (by decide) rfl (fun ls hl => ?_)
          refine lv_goto (tgt := 16) hx hb dX2_sendProposal_58 (by decide) ?_
          exact ih_16 (gn G - (i + 1)) (by omega) (i + 1) M1 k3 rfl (by omega) (by rw [sndM, ← hM, if_neg (by rw [c_40]; decide)]) (by rw [sndC, ← hM, ← hc, c_40]; rfl) _ _ _ hP hS (lv_sub hl [2, 3, 4, 5, 6, 7, 0] rfl)
        · have c_40 : (tI to i) = true := (bI_ne0 _).mp c_40
          refine lv_aload hx hb dX2_sendProposal_43 (lv_at hl 0 rfl) ?_
          refine lv_iload_n hx hb dX2_sendProposal_45 rfl (lv_at hl 2 rfl) ?_
          refine k_ci (k_runN (As := [.int (nI b)]) (rest := []) X hK hP (wC_n0 G ((M1, u.2)) (by omega)) rfl (m1_expectProposal l G ((M1, u.2)) hL ((by rw [hM]; exact ok_snd hk _ _ _ : okC G (M1, u.2))) (v := i) (by omega) (b := b) (by omega)) ⟨rfl, rfl⟩ ntw_1_236 tw_1_238 tw_0_12 tw_1_4 tw_1_239 ⟨by decide +kernel, by decide +kernel, (by decide +kernel : (parseMethodDescriptor yX1_expectProposal.desc).map (fun d => d.parameters.length) = some 1)⟩ ⟨Nat.le_of_ble_eq_true rfl, Nat.le_of_ble_eq_true rfl⟩ hl.1 rfl (Nat.le_of_ble_eq_true rfl) ⟨Nat.zero_le _, Nat.zero_le _⟩ dX2_sendProposal_46) hS (fun r_46 u_46 H locs hq_46 hP hS => ?_)
          have hP := k_su hq_46.2 hP
          refine k_ti hq_46.1 ?_
          have ok_46 : okC G ((mExp M1 (11 * b) i, u.2)) := ok_exp ((by rw [hM]; exact ok_snd hk _ _ _ : okC G (M1, u.2))) _ _
          refine lv_if_eq (tgt := 55) hx hb dX2_sendProposal_49 (by decide) (fun c_49 => ?_) (fun c_49 => ?_)
          · have c_49 : (newL M1 (11 * b) i) = false := (bI_eq0 _).mp c_49
            refine lv_iinc (v := nI (i + 1)) (lv' := [(6, .int (nI (i + 1))), (7, .ref (gL G (11 + 5 * i))), (0, .ref (gL G 0)), (1, .int (nI b)), (2, .int (to)), (3, .int (nI k3)), (4, .ref (gL G 1)), (5, .int (nI (gn G)))]) hx hb dX2_sendProposal_55 hl (k := 7) rfl (nI_add i 1) (by decide) rfl (fun ls hl => ?_)
            refine lv_goto (tgt := 16) hx hb dX2_sendProposal_58 (by decide) ?_
            exact ih_16 (gn G - (i + 1)) (by omega) (i + 1) (mExp M1 (11 * b) i) k3 rfl (by omega) (by rw [sndM, ← hM, if_pos c_40]) (by rw [sndC, ← hM, ← hc, c_40, c_49]; rfl) _ _ _ hP hS (lv_sub hl [2, 3, 4, 5, 6, 7, 0] rfl)
          · have c_49 : (newL M1 (11 * b) i) = true := (bI_ne0 _).mp c_49
            refine lv_iinc (v := nI (k3 + 1)) (lv' := [(3, .int (nI (k3 + 1))), (7, .ref (gL G (11 + 5 * i))), (0, .ref (gL G 0)), (1, .int (nI b)), (2, .int (to)), (4, .ref (gL G 1)), (5, .int (nI (gn G))), (6, .int (nI i))]) hx hb dX2_sendProposal_52 hl (k := 4) rfl (nI_add k3 1) (by decide) rfl (fun ls hl => ?_)
            refine lv_iinc (v := nI (i + 1)) (lv' := [(6, .int (nI (i + 1))), (3, .int (nI (k3 + 1))), (7, .ref (gL G (11 + 5 * i))), (0, .ref (gL G 0)), (1, .int (nI b)), (2, .int (to)), (4, .ref (gL G 1)), (5, .int (nI (gn G)))]) hx hb dX2_sendProposal_55 hl (k := 7) rfl (nI_add i 1) (by decide) rfl (fun ls hl => ?_)
            refine lv_goto (tgt := 16) hx hb dX2_sendProposal_58 (by decide) ?_
            exact ih_16 (gn G - (i + 1)) (by omega) (i + 1) (mExp M1 (11 * b) i) (k3 + 1) rfl (by omega) (by rw [sndM, ← hM, if_pos c_40]) (by rw [sndC, ← hM, ← hc, c_40, c_49]; rfl) _ _ _ hP hS (lv_sub hl [3, 4, 5, 1, 6, 7, 0] rfl)
  exact loop_16 _ 0 u.1 0 rfl (Nat.zero_le _) (rfl) (rfl) _ _ _ hP hS (lv_sub hl [4, 5, 6, 3, 2, 1, 0] rfl)

set_option maxHeartbeats 4000000 in
set_option maxRecDepth 100000 in
theorem m2_sendVote (l : Launch) (G : kG) (u : CS) (hL : lay G) (hk : okC G u) {b x : Nat} (hbb : b ≤ 60) (hxx : x < 10) (to : Int32) : KMi l G (AC G) (wC G) yX2_sendVote cX2_sendVote 9 (Option.some FieldType.int) ({ frames := 2, cells := 0, slots := 0, locals := 45 }) [.ref (gL G 0), .int (nI x), .int (nI b), .int (to)] u (fun r u' => r = nI (sndC u.1 (11 * b + 1 + x) to (gn G)) ∧ u' = (sndM u.1 (11 * b + 1 + x) to (gn G), u.2)) := by
  refine K_of (by decide) (Nat.le_of_ble_eq_true rfl) ?_
  intro p e s m below meth c X hr hlocks hnm hK hP ls hl
  have hx := X.1
  have hb := X.2.1
  have hown := X.2.2.2.1
  have hts := X.2.2.2.2
  have hS : va_S (AC G) s.heap s.heap [] := va_S.rf
  have hl : lv_has ls 9 [(0, .ref (gL G 0)), (1, .int (nI x)), (2, .int (nI b)), (3, .int (to))] := hl
  obtain ⟨kn4, kn10, kT1, kT61, kP40, kLd, kPar, kEp, kHt, kFc, kVf, kTp, kHf⟩ := id hk
  refine lv_iconst (v := nI 0) hx hb dX2_sendVote_0 (by decide) ?_
  refine lv_istore (lv' := [(4, .int (nI 0)), (0, .ref (gL G 0)), (1, .int (nI x)), (2, .int (nI b)), (3, .int (to))]) hx hb dX2_sendVote_1 hl (by decide) rfl (fun ls hl => ?_)
  refine lv_aload_n hx hb dX2_sendVote_3 rfl (lv_at hl 1 rfl) ?_
  refine k_get (v := .ref (gL G 1)) X hK inX2 rfl hP (wC_g G u (k := 0) (by decide)) 1 (by decide) tw_1_140 rfl dX2_sendVote_4 ?_
  refine lv_astore (lv' := [(5, .ref (gL G 1)), (4, .int (nI 0)), (0, .ref (gL G 0)), (1, .int (nI x)), (2, .int (nI b)), (3, .int (to))]) hx hb dX2_sendVote_7 hl (by decide) rfl (fun ls hl => ?_)
  refine lv_aload hx hb dX2_sendVote_9 (lv_at hl 0 rfl) ?_
  refine k_len X hK hP (wC_g G u (k := 1) (by decide)) dX2_sendVote_11 ?_
  refine lv_istore (lv' := [(6, .int (nI (gn G))), (5, .ref (gL G 1)), (4, .int (nI 0)), (0, .ref (gL G 0)), (1, .int (nI x)), (2, .int (nI b)), (3, .int (to))]) hx hb dX2_sendVote_12 hl (by decide) rfl (fun ls hl => ?_)
  refine lv_iconst (v := nI 0) hx hb dX2_sendVote_14 (by decide) ?_
  refine lv_istore (lv' := [(7, .int (nI 0)), (6, .int (nI (gn G))), (5, .ref (gL G 1)), (4, .int (nI 0)), (0, .ref (gL G 0)), (1, .int (nI x)), (2, .int (nI b)), (3, .int (to))]) hx hb dX2_sendVote_15 hl (by decide) rfl (fun ls hl => ?_)
  have loop_17 : ∀ (d_17 : Nat) (i : Nat) (M1 : MS) (k3 : Nat), gn G - i = d_17 → (i ≤ gn G) → (M1 = sndM u.1 (11 * b + 1 + x) to i) → (k3 = sndC u.1 (11 * b + 1 + x) to i) → ∀ (H : Heap) (locs : List Loc) (ls : Array Slot), va_P (gD G) vwCl ((wC G) ((M1, u.2))) H → va_S (AC G) s.heap H locs → lv_has ls 9 [(0, .ref (gL G 0)), (1, .int (nI x)), (2, .int (nI b)), (3, .int (to)), (4, .int (nI k3)), (5, .ref (gL G 1)), (6, .int (nI (gn G))), (7, .int (nI i))] → W p l e ({ frames := 2, cells := 0, slots := 0, locals := 45 } : Room) s m ([.ref (gL G 0), .int (nI x), .int (nI b), .int (to)] : List Value).toArray below meth c H locs 0 0 (MQ below (va_Qi (fun r u' => r = nI (sndC u.1 (11 * b + 1 + x) to (gn G)) ∧ u' = (sndM u.1 (11 * b + 1 + x) to (gn G), u.2)) (KB G (wC G)) (AC G)) ([.ref (gL G 0), .int (nI x), .int (nI b), .int (to)] : List Value).toArray s 0 0 (AC G)) (F0 m 17 ls []) := by
    intro d_17
    induction d_17 using Nat.strongRecOn with
    | ind d_17 ih_17 =>
      intro i M1 k3 hd_17 hi hM hc H locs ls hP hS hl
      refine lv_iload hx hb dX2_sendVote_17 (lv_at hl 7 rfl) ?_
      refine lv_iload hx hb dX2_sendVote_19 (lv_at hl 6 rfl) ?_
      refine lv_icmp_ge (tgt := 63) hx hb dX2_sendVote_21 (by decide) (fun c_21 => ?_) (fun c_21 => ?_)
      · have c_21 : (gn G) ≤ i := cLe c_21 (by omega) (by omega)
        refine lv_iload hx hb dX2_sendVote_63 (lv_at hl 4 rfl) ?_
        exact k_reti X hr hlocks hP hS dX2_sendVote_65 ⟨by rw [hc, show i = gn G by omega], by rw [hM, show i = gn G by omega]⟩
      · have c_21 : i < (gn G) := cNle c_21 (by omega) (by omega)
        refine lv_aload hx hb dX2_sendVote_24 (lv_at hl 5 rfl) ?_
        refine lv_iload hx hb dX2_sendVote_26 (lv_at hl 7 rfl) ?_
        refine k_ald (v := gL G (11 + 5 * i)) X hK hP (wC_g G ((M1, u.2)) (k := 1) (by decide)) (by omega) (by omega) rfl dX2_sendVote_28 ?_
        refine lv_astore (lv' := [(8, .ref (gL G (11 + 5 * i))), (0, .ref (gL G 0)), (1, .int (nI x)), (2, .int (nI b)), (3, .int (to)), (4, .int (nI k3)), (5, .ref (gL G 1)), (6, .int (nI (gn G))), (7, .int (nI i))]) hx hb dX2_sendVote_29 hl (by decide) rfl (fun ls hl => ?_)
        refine lv_iload_n hx hb dX2_sendVote_31 rfl (lv_at hl 4 rfl) ?_
        refine lv_i2l (v := to.toInt64) hx hb dX2_sendVote_32 rfl ?_
        refine lv_aload hx hb dX2_sendVote_33 (lv_at hl 0 rfl) ?_
        refine k_gn (v := .int (nI i)) X hK inX1 rfl hP (wC_n0 G ((M1, u.2)) (by omega)) 0 (by decide) ntw_1_80 rfl dX2_sendVote_35 ?_
        refine k_ci (k_runS (As := [.long (to.toInt64), .int (nI i)]) (rest := []) X hK hP (m2_holds l G (AC G) (wC G) ((M1, u.2)) to.toInt64 (k := i) (by omega)) ⟨rfl, rfl⟩ tw_1_235 tw_1_211 tw_1_1 tw_1_212 ⟨by decide +kernel, by decide +kernel, (by decide +kernel : (parseMethodDescriptor yX2_holds.desc).map (fun d => d.parameters.length) = some 2)⟩ ⟨Nat.le_of_ble_eq_true rfl, Nat.le_of_ble_eq_true rfl⟩ hl.1 rfl (Nat.le_of_ble_eq_true rfl) ⟨Nat.zero_le _, Nat.zero_le _⟩ dX2_sendVote_38) hS (fun r_38 u_38 H locs hq_38 hP hS => ?_)
        have hP := k_su hq_38.2 hP
        refine k_ti (y := bI (tI to i)) (hq_38.1.trans (congrArg bI (tL_wide _ (by omega)))) ?_
        refine lv_if_eq (tgt := 57) hx hb dX2_sendVote_41 (by decide) (fun c_41 => ?_) (fun c_41 => ?_)
        · have c_41 : (tI to i) = false := (bI_eq0 _).mp c_41
          refine lv_iinc (v := nI (i + 1)) (lv' := [(7, .int (nI (i + 1))), (8, .ref (gL G (11 + 5 * i))), (0, .ref (gL G 0)), (1, .int (nI x)), (2, .int (nI b)), (3, .int (to)), (4, .int (nI k3)), (5, .ref (gL G 1)), (6, .int (nI (gn G)))]) hx hb dX2_sendVote_57 hl (k := 8) rfl (nI_add i 1) (by decide) rfl (fun ls hl => ?_)
          refine lv_goto (tgt := 17) hx hb dX2_sendVote_60 (by decide) ?_
          exact ih_17 (gn G - (i + 1)) (by omega) (i + 1) M1 k3 rfl (by omega) (by rw [sndM, ← hM, if_neg (by rw [c_41]; decide)]) (by rw [sndC, ← hM, ← hc, c_41]; rfl) _ _ _ hP hS (lv_sub hl [2, 3, 4, 5, 6, 7, 8, 0] rfl)
        · have c_41 : (tI to i) = true := (bI_ne0 _).mp c_41
          refine lv_aload hx hb dX2_sendVote_44 (lv_at hl 0 rfl) ?_
          refine lv_iload_n hx hb dX2_sendVote_46 rfl (lv_at hl 2 rfl) ?_
          refine lv_iload_n hx hb dX2_sendVote_47 rfl (lv_at hl 3 rfl) ?_
          refine k_ci (k_runN (As := [.int (nI x), .int (nI b)]) (rest := []) X hK hP (wC_n0 G ((M1, u.2)) (by omega)) rfl (m1_expectVote l G ((M1, u.2)) hL ((by rw [hM]; exact ok_snd hk _ _ _ : okC G (M1, u.2))) (v := i) (by omega) (b := b) (x := x) (by omega) (by omega)) ⟨rfl, rfl⟩ ntw_2_16 tw_2_18 tw_0_17 tw_1_4 tw_2_19 ⟨by decide +kernel, by decide +kernel, (by decide +kernel : (parseMethodDescriptor yX1_expectVote.desc).map (fun d => d.parameters.length) = some 2)⟩ ⟨Nat.le_of_ble_eq_true rfl, Nat.le_of_ble_eq_true rfl⟩ hl.1 rfl (Nat.le_of_ble_eq_true rfl) ⟨Nat.zero_le _, Nat.zero_le _⟩ dX2_sendVote_48) hS (fun r_48 u_48 H locs hq_48 hP hS => ?_)
          have hP := k_su hq_48.2 hP
          refine k_ti hq_48.1 ?_
          have ok_48 : okC G ((mExp M1 (11 * b + 1 + x) i, u.2)) := ok_exp ((by rw [hM]; exact ok_snd hk _ _ _ : okC G (M1, u.2))) _ _
          refine lv_if_eq (tgt := 57) hx hb dX2_sendVote_51 (by decide) (fun c_51 => ?_) (fun c_51 => ?_)
          · have c_51 : (newL M1 (11 * b + 1 + x) i) = false := (bI_eq0 _).mp c_51
            refine lv_iinc (v := nI (i + 1)) (lv' := [(7, .int (nI (i + 1))), (8, .ref (gL G (11 + 5 * i))), (0, .ref (gL G 0)), (1, .int (nI x)), (2, .int (nI b)), (3, .int (to)), (4, .int (nI k3)), (5, .ref (gL G 1)), (6, .int (nI (gn G)))]) hx hb dX2_sendVote_57 hl (k := 8) rfl (nI_add i 1) (by decide) rfl (fun ls hl => ?_)
            refine lv_goto (tgt := 17) hx hb dX2_sendVote_60 (by decide) ?_
            exact ih_17 (gn G - (i + 1)) (by omega) (i + 1) (mExp M1 (11 * b + 1 + x) i) k3 rfl (by omega) (by rw [sndM, ← hM, if_pos c_41]) (by rw [sndC, ← hM, ← hc, c_41, c_51]; rfl) _ _ _ hP hS (lv_sub hl [2, 3, 4, 5, 6, 7, 8, 0] rfl)
          · have c_51 : (newL M1 (11 * b + 1 + x) i) = true := (bI_ne0 _).mp c_51
            refine lv_iinc (v := nI (k3 + 1)) (lv' := [(4, .int (nI (k3 + 1))), (8, .ref (gL G (11 + 5 * i))), (0, .ref (gL G 0)), (1, .int (nI x)), (2, .int (nI b)), (3, .int (to)), (5, .ref (gL G 1)), (6, .int (nI (gn G))), (7, .int (nI i))]) hx hb dX2_sendVote_54 hl (k := 5) rfl (nI_add k3 1) (by decide) rfl (fun ls hl => ?_)
            refine lv_iinc (v := nI (i + 1)) (lv' := [(7, .int (nI (i + 1))), (4, .int (nI (k3 + 1))), (8, .ref (gL G (11 + 5 * i))), (0, .ref (gL G 0)), (1, .int (nI x)), (2, .int (nI b)), (3, .int (to)), (5, .ref (gL G 1)), (6, .int (nI (gn G)))]) hx hb dX2_sendVote_57 hl (k := 8) rfl (nI_add i 1) (by decide) rfl (fun ls hl => ?_)
            refine lv_goto (tgt := 17) hx hb dX2_sendVote_60 (by decide) ?_
            exact ih_17 (gn G - (i + 1)) (by omega) (i + 1) (mExp M1 (11 * b + 1 + x) i) (k3 + 1) rfl (by omega) (by rw [sndM, ← hM, if_pos c_41]) (by rw [sndC, ← hM, ← hc, c_41, c_51]; rfl) _ _ _ hP hS (lv_sub hl [3, 4, 5, 6, 1, 7, 8, 0] rfl)
  exact loop_17 _ 0 u.1 0 rfl (Nat.zero_le _) (rfl) (rfl) _ _ _ hP hS (lv_sub hl [4, 5, 6, 7, 3, 2, 1, 0] rfl)

set_option maxHeartbeats 4000000 in
set_option maxRecDepth 100000 in
theorem m2_takeProposal (l : Launch) (G : kG) (u : CS) (hL : lay G) (hk : okC G u) {v : Nat} (hv : v < gn G) {b : Nat} (hb0 : 0 < b) (hbT : b < mT u.1) : KMv l G (AC G) (wC G) yX2_takeProposal cX2_takeProposal 3 (Option.none : Option FieldType) ({ frames := 3, cells := 0, slots := 0, locals := 71 }) [.ref (gL G 0), .ref (gL G (11 + 5 * v)), .int (nI b)] u (fun u' => u' = cTakeP (gn G) u v b) := by
  refine K_of (by decide) (Nat.le_of_ble_eq_true rfl) ?_
  intro p e s m below meth c X hr hlocks hnm hK hP ls hl
  have hx := X.1
  have hb := X.2.1
  have hown := X.2.2.2.1
  have hts := X.2.2.2.2
  have hS : va_S (AC G) s.heap s.heap [] := va_S.rf
  have hl : lv_has ls 3 [(0, .ref (gL G 0)), (1, .ref (gL G (11 + 5 * v))), (2, .int (nI b))] := hl
  obtain ⟨kn4, kn10, kT1, kT61, kP40, kLd, kPar, kEp, kHt, kFc, kVf, kTp, kHf⟩ := id hk
  refine lv_aload_n hx hb dX2_takeProposal_0 rfl (lv_at hl 1 rfl) ?_
  refine lv_iload_n hx hb dX2_takeProposal_1 rfl (lv_at hl 2 rfl) ?_
  refine k_cv (k_runN (As := [.int (nI b)]) (rest := []) X hK hP (wC_n0 G u hv) rfl (m1_haveProposal l G u hL (hk) (v := v) hv (b := b) (by omega) (show b < mT u.1 by omega)) ⟨rfl, rfl⟩ ntw_1_201 tw_1_203 tw_0_6 tw_1_4 tw_1_204 ⟨by decide +kernel, by decide +kernel, (by decide +kernel : (parseMethodDescriptor yX1_haveProposal.desc).map (fun d => d.parameters.length) = some 1)⟩ ⟨Nat.le_of_ble_eq_true rfl, Nat.le_of_ble_eq_true rfl⟩ hl.1 rfl (Nat.le_of_ble_eq_true rfl) ⟨Nat.zero_le _, Nat.zero_le _⟩ dX2_takeProposal_2) hS (fun u_2 H locs hq_2 hP hS => ?_)
  have hP := k_su hq_2 hP
  have ok_2 : okC G ((cHaveP (gn G) u v b)) := ok_cHaveP (hk) (show b < mT u.1 by omega)
  refine lv_aload_n hx hb dX2_takeProposal_5 rfl (lv_at hl 1 rfl) ?_
  refine k_gn (v := .int (bI ((mFa (((cHaveP (gn G) u v b)).1)) v))) X hK inX1 rfl hP (wC_n0 G ((cHaveP (gn G) u v b)) hv) 3 (by decide) ntw_1_83 rfl dX2_takeProposal_6 ?_
  refine lv_if_ne (tgt := 22) hx hb dX2_takeProposal_9 (by decide) (fun c_9 => ?_) (fun c_9 => ?_)
  · have c_9 : ((mFa (((cHaveP (gn G) u v b)).1)) v) = true := (bI_ne0 _).mp c_9
    have c_9 : mFa u.1 v = true := by rw [← stat_Fa (st_cHaveP (gn G) u v b)]; exact c_9
    exact k_retv X hr hlocks hP hS dX2_takeProposal_22 (by rw [cTakeP, if_pos c_9])
  · have c_9 : ((mFa (((cHaveP (gn G) u v b)).1)) v) = false := (bI_eq0 _).mp c_9
    have c_9 : mFa u.1 v = false := by rw [← stat_Fa (st_cHaveP (gn G) u v b)]; exact c_9
    refine lv_aload_n hx hb dX2_takeProposal_12 rfl (lv_at hl 0 rfl) ?_
    refine lv_iload_n hx hb dX2_takeProposal_13 rfl (lv_at hl 2 rfl) ?_
    refine lv_aload_n hx hb dX2_takeProposal_14 rfl (lv_at hl 0 rfl) ?_
    refine k_ci (k_runV (As := []) (rest := [.int (nI b), .ref (gL G 0)]) X hK hP (wC_g G ((cHaveP (gn G) u v b)) (k := 0) (by decide)) rfl (m2_allNodes l G ((cHaveP (gn G) u v b)) hL (ok_2)) ⟨rfl, rfl⟩ tw_1_227 tw_1_229 tw_0_10 tw_1_1 tw_1_230 ⟨by decide +kernel, by decide +kernel, (by decide +kernel : (parseMethodDescriptor yX2_allNodes.desc).map (fun d => d.parameters.length) = some 0)⟩ ⟨Nat.le_of_ble_eq_true rfl, Nat.le_of_ble_eq_true rfl⟩ hl.1 rfl (Nat.le_of_ble_eq_true rfl) ⟨Nat.zero_le _, Nat.zero_le _⟩ dX2_takeProposal_15) hS (fun r_15 u_15 H locs hq_15 hP hS => ?_)
    have hP := k_su hq_15.2 hP
    refine k_ti hq_15.1 ?_
    refine k_ci (k_runV (As := [.int (nI b), .int (nI (2 ^ gn G - 1))]) (rest := []) X hK hP (wC_g G ((cHaveP (gn G) u v b)) (k := 0) (by decide)) rfl (m2_sendProposal l G ((cHaveP (gn G) u v b)) hL (ok_2) (b := b) (by omega) (nI (2 ^ gn G - 1))) ⟨rfl, rfl⟩ tw_1_231 tw_1_233 tw_0_11 tw_1_1 tw_1_234 ⟨by decide +kernel, by decide +kernel, (by decide +kernel : (parseMethodDescriptor yX2_sendProposal.desc).map (fun d => d.parameters.length) = some 2)⟩ ⟨Nat.le_of_ble_eq_true rfl, Nat.le_of_ble_eq_true rfl⟩ hl.1 rfl (Nat.le_of_ble_eq_true rfl) ⟨Nat.zero_le _, Nat.zero_le _⟩ dX2_takeProposal_18) hS (fun r_18 u_18 H locs hq_18 hP hS => ?_)
    have hP := k_su hq_18.2 hP
    refine k_ti hq_18.1 ?_
    have ok_18 : okC G ((sndM ((cHaveP (gn G) u v b)).1 (11 * b) (nI (2 ^ gn G - 1)) (gn G), ((cHaveP (gn G) u v b)).2)) := ok_snd (ok_2) _ _ _
    refine lv_pop hx hb dX2_takeProposal_21 rfl ?_
    exact k_retv X hr hlocks hP hS dX2_takeProposal_22 (by rw [cTakeP, if_neg (by rw [c_9]; decide)]; rfl)

set_option maxHeartbeats 4000000 in
set_option maxRecDepth 100000 in
theorem m2_takeVote (l : Launch) (G : kG) (u : CS) (hL : lay G) (hk : okC G u) {v : Nat} (hv : v < gn G) {b x : Nat} (hb0 : 0 < b) (hbT : b < mT u.1) (hxx : x < 10) : KMv l G (AC G) (wC G) yX2_takeVote cX2_takeVote 4 (Option.none : Option FieldType) ({ frames := 3, cells := 0, slots := 0, locals := 73 }) [.ref (gL G 0), .ref (gL G (11 + 5 * v)), .int (nI x), .int (nI b)] u (fun u' => u' = cTakeV (gn G) u v x b) := by
  refine K_of (by decide) (Nat.le_of_ble_eq_true rfl) ?_
  intro p e s m below meth c X hr hlocks hnm hK hP ls hl
  have hx := X.1
  have hb := X.2.1
  have hown := X.2.2.2.1
  have hts := X.2.2.2.2
  have hS : va_S (AC G) s.heap s.heap [] := va_S.rf
  have hl : lv_has ls 4 [(0, .ref (gL G 0)), (1, .ref (gL G (11 + 5 * v))), (2, .int (nI x)), (3, .int (nI b))] := hl
  obtain ⟨kn4, kn10, kT1, kT61, kP40, kLd, kPar, kEp, kHt, kFc, kVf, kTp, kHf⟩ := id hk
  refine lv_aload_n hx hb dX2_takeVote_0 rfl (lv_at hl 1 rfl) ?_
  refine lv_iload_n hx hb dX2_takeVote_1 rfl (lv_at hl 2 rfl) ?_
  refine lv_iload_n hx hb dX2_takeVote_2 rfl (lv_at hl 3 rfl) ?_
  refine k_cv (k_runN (As := [.int (nI x), .int (nI b)]) (rest := []) X hK hP (wC_n0 G u hv) rfl (m1_haveVote l G u hL (hk) (v := v) hv (b := b) (x := x) (by omega) (show b < mT u.1 by omega) (by omega)) ⟨rfl, rfl⟩ ntw_2_8 tw_2_10 tw_0_15 tw_1_4 tw_2_11 ⟨by decide +kernel, by decide +kernel, (by decide +kernel : (parseMethodDescriptor yX1_haveVote.desc).map (fun d => d.parameters.length) = some 2)⟩ ⟨Nat.le_of_ble_eq_true rfl, Nat.le_of_ble_eq_true rfl⟩ hl.1 rfl (Nat.le_of_ble_eq_true rfl) ⟨Nat.zero_le _, Nat.zero_le _⟩ dX2_takeVote_3) hS (fun u_3 H locs hq_3 hP hS => ?_)
  have hP := k_su hq_3 hP
  have ok_3 : okC G ((cHaveV (gn G) u v x b)) := ok_cHaveV (hk) (show b < mT u.1 by omega)
  refine lv_aload_n hx hb dX2_takeVote_6 rfl (lv_at hl 1 rfl) ?_
  refine k_gn (v := .int (bI ((mFa (((cHaveV (gn G) u v x b)).1)) v))) X hK inX1 rfl hP (wC_n0 G ((cHaveV (gn G) u v x b)) hv) 3 (by decide) ntw_1_83 rfl dX2_takeVote_7 ?_
  refine lv_if_ne (tgt := 24) hx hb dX2_takeVote_10 (by decide) (fun c_10 => ?_) (fun c_10 => ?_)
  · have c_10 : ((mFa (((cHaveV (gn G) u v x b)).1)) v) = true := (bI_ne0 _).mp c_10
    have c_10 : mFa u.1 v = true := c_10
    exact k_retv X hr hlocks hP hS dX2_takeVote_24 (by rw [cTakeV, if_pos c_10])
  · have c_10 : ((mFa (((cHaveV (gn G) u v x b)).1)) v) = false := (bI_eq0 _).mp c_10
    have c_10 : mFa u.1 v = false := c_10
    refine lv_aload_n hx hb dX2_takeVote_13 rfl (lv_at hl 0 rfl) ?_
    refine lv_iload_n hx hb dX2_takeVote_14 rfl (lv_at hl 2 rfl) ?_
    refine lv_iload_n hx hb dX2_takeVote_15 rfl (lv_at hl 3 rfl) ?_
    refine lv_aload_n hx hb dX2_takeVote_16 rfl (lv_at hl 0 rfl) ?_
    refine k_ci (k_runV (As := []) (rest := [.int (nI b), .int (nI x), .ref (gL G 0)]) X hK hP (wC_g G ((cHaveV (gn G) u v x b)) (k := 0) (by decide)) rfl (m2_allNodes l G ((cHaveV (gn G) u v x b)) hL (ok_3)) ⟨rfl, rfl⟩ tw_1_227 tw_1_229 tw_0_10 tw_1_1 tw_1_230 ⟨by decide +kernel, by decide +kernel, (by decide +kernel : (parseMethodDescriptor yX2_allNodes.desc).map (fun d => d.parameters.length) = some 0)⟩ ⟨Nat.le_of_ble_eq_true rfl, Nat.le_of_ble_eq_true rfl⟩ hl.1 rfl (Nat.le_of_ble_eq_true rfl) ⟨Nat.zero_le _, Nat.zero_le _⟩ dX2_takeVote_17) hS (fun r_17 u_17 H locs hq_17 hP hS => ?_)
    have hP := k_su hq_17.2 hP
    refine k_ti hq_17.1 ?_
    refine k_ci (k_runV (As := [.int (nI x), .int (nI b), .int (nI (2 ^ gn G - 1))]) (rest := []) X hK hP (wC_g G ((cHaveV (gn G) u v x b)) (k := 0) (by decide)) rfl (m2_sendVote l G ((cHaveV (gn G) u v x b)) hL (ok_3) (b := b) (x := x) (by omega) (by omega) (nI (2 ^ gn G - 1))) ⟨rfl, rfl⟩ tw_2_12 tw_2_14 tw_0_16 tw_1_1 tw_2_15 ⟨by decide +kernel, by decide +kernel, (by decide +kernel : (parseMethodDescriptor yX2_sendVote.desc).map (fun d => d.parameters.length) = some 3)⟩ ⟨Nat.le_of_ble_eq_true rfl, Nat.le_of_ble_eq_true rfl⟩ hl.1 rfl (Nat.le_of_ble_eq_true rfl) ⟨Nat.zero_le _, Nat.zero_le _⟩ dX2_takeVote_20) hS (fun r_20 u_20 H locs hq_20 hP hS => ?_)
    have hP := k_su hq_20.2 hP
    refine k_ti hq_20.1 ?_
    have ok_20 : okC G ((sndM ((cHaveV (gn G) u v x b)).1 (11 * b + 1 + x) (nI (2 ^ gn G - 1)) (gn G), ((cHaveV (gn G) u v x b)).2)) := ok_snd (ok_3) _ _ _
    refine lv_pop hx hb dX2_takeVote_23 rfl ?_
    exact k_retv X hr hlocks hP hS dX2_takeVote_24 (by rw [cTakeV, if_neg (by rw [c_10]; decide)]; rfl)

set_option maxHeartbeats 4000000 in
set_option maxRecDepth 100000 in
theorem m2_look (l : Launch) (G : kG) (u : CS) (hL : lay G) (hk : okC G u) {v : Nat} (hv : v < gn G) : KMv l G (AC G) (wC G) yX2_look cX2_look 3 (Option.none : Option FieldType) ({ frames := 3, cells := 0, slots := 0, locals := 73 }) [.ref (gL G 0), .ref (gL G (11 + 5 * v))] u (fun u' => u' = cLook (gn G) u v) := by
  refine K_of (by decide) (Nat.le_of_ble_eq_true rfl) ?_
  intro p e s m below meth c X hr hlocks hnm hK hP ls hl
  have hx := X.1
  have hb := X.2.1
  have hown := X.2.2.2.1
  have hts := X.2.2.2.2
  have hS : va_S (AC G) s.heap s.heap [] := va_S.rf
  have hl : lv_has ls 3 [(0, .ref (gL G 0)), (1, .ref (gL G (11 + 5 * v)))] := hl
  obtain ⟨kn4, kn10, kT1, kT61, kP40, kLd, kPar, kEp, kHt, kFc, kVf, kTp, kHf⟩ := id hk
  refine lv_aload_n hx hb dX2_look_0 rfl (lv_at hl 1 rfl) ?_
  refine k_gn (v := .int (bI ((mFa u.1) v))) X hK inX1 rfl hP (wC_n0 G u hv) 3 (by decide) ntw_1_83 rfl dX2_look_1 ?_
  refine lv_if_eq (tgt := 11) hx hb dX2_look_4 (by decide) (fun c_4 => ?_) (fun c_4 => ?_)
  · have c_4 : ((mFa u.1) v) = false := (bI_eq0 _).mp c_4
    refine lv_aload_n hx hb dX2_look_11 rfl (lv_at hl 1 rfl) ?_
    refine lv_aload_n hx hb dX2_look_12 rfl (lv_at hl 0 rfl) ?_
    refine k_get (v := .int (nI (mP u.1))) X hK inX2 rfl hP (wC_g G u (k := 0) (by decide)) 3 (by decide) tw_1_142 rfl dX2_look_13 ?_
    refine k_ci (k_runN (As := [.int (nI (mP u.1))]) (rest := []) X hK hP (wC_n0 G u hv) rfl (m1_choice l G u hL (hk) (v := v) hv (q := (mP u.1)) (by omega)) ⟨rfl, rfl⟩ ntw_2_4 tw_2_6 tw_0_14 tw_1_4 tw_2_7 ⟨by decide +kernel, by decide +kernel, (by decide +kernel : (parseMethodDescriptor yX1_choice.desc).map (fun d => d.parameters.length) = some 1)⟩ ⟨Nat.le_of_ble_eq_true rfl, Nat.le_of_ble_eq_true rfl⟩ hl.1 rfl (Nat.le_of_ble_eq_true rfl) ⟨Nat.zero_le _, Nat.zero_le _⟩ dX2_look_16) hS (fun r_16 u_16 H locs hq_16 hP hS => ?_)
    have hP := k_su hq_16.2 hP
    refine k_ti hq_16.1 ?_
    rcases Nat.eq_zero_or_pos (cChoice u.1 u.2 v (mP u.1)) with hCz | hCz
    · refine k_ti (show oI (cChoice u.1 u.2 v (mP u.1)) = -1 by rw [hCz]; rfl) ?_
      refine lv_istore_n (lv' := [(2, .int (-1)), (0, .ref (gL G 0)), (1, .ref (gL G (11 + 5 * v)))]) hx hb dX2_look_19 rfl hl (by decide) rfl (fun ls hl => ?_)
      refine lv_iload_n hx hb dX2_look_20 rfl (lv_at hl 0 rfl) ?_
      refine lv_iconst (v := -1) hx hb dX2_look_21 (by decide) ?_
      refine lv_icmp_eq (tgt := 68) hx hb dX2_look_22 (by decide) (fun c_22 => ?_) (fun c_22 => ?_)
      · exact k_retv X hr hlocks hP hS dX2_look_68 (by rw [cLook, if_pos (by first | (rw [cCh, if_pos c_4]; done) | (rw [cCh, if_neg (by rw [c_4]; decide)]; exact hCz))])
      · exact absurd rfl c_22
    · obtain ⟨ch, hch⟩ : ∃ ch, cChoice u.1 u.2 v (mP u.1) = ch := ⟨_, rfl⟩
      rw [hch] at hCz
      have hce : cCh u v = ch := by rw [cCh, if_neg (by rw [c_4]; decide), hch]
      have hcl : ch < mT u.1 := hce ▸ cCh_lt hk v
      refine k_ti (y := nI ch) (by rw [hch]; exact (oI_pos hCz).symm) ?_
      refine lv_istore_n (lv' := [(2, .int (nI ch)), (0, .ref (gL G 0)), (1, .ref (gL G (11 + 5 * v)))]) hx hb dX2_look_19 rfl hl (by decide) rfl (fun ls hl => ?_)
      refine lv_iload_n hx hb dX2_look_20 rfl (lv_at hl 0 rfl) ?_
      refine lv_iconst (v := -1) hx hb dX2_look_21 (by decide) ?_
      refine lv_icmp_eq (tgt := 68) hx hb dX2_look_22 (by decide) (fun c_22 => ?_) (fun c_22 => ?_)
      · exact absurd c_22 (m1_ne (by omega))
      · refine lv_aload_n hx hb dX2_look_25 rfl (lv_at hl 2 rfl) ?_
        refine k_gn (v := .ref (gL G (15 + 5 * v))) X hK inX1 rfl hP (wC_n0 G u hv) 10 (by decide) ntw_1_95 rfl dX2_look_26 ?_
        refine lv_aload_n hx hb dX2_look_29 rfl (lv_at hl 1 rfl) ?_
        refine k_get (v := .int (nI (mP u.1))) X hK inX2 rfl hP (wC_g G u (k := 0) (by decide)) 3 (by decide) tw_1_142 rfl dX2_look_30 ?_
        refine lv_iload_n hx hb dX2_look_33 rfl (lv_at hl 0 rfl) ?_
        refine k_ti (oI_pos hCz) ?_
        refine k_ist (x := oI ch) X hK hP (wC_D hL _) hS (wC_n4 G u hv) (by omega) (by decide) ((sVf u.1 (up2 (mVf u.1) v (mP u.1) ch), u.2)) (cn_vf G u hv (mP u.1) ch) dX2_look_34 (fun H locs hP hS => ?_)
        have ok_34 : okC G ((sVf u.1 (up2 (mVf u.1) v (mP u.1) ch), u.2)) := ok_Vf hk (by omega)
        refine lv_aload_n hx hb dX2_look_35 rfl (lv_at hl 1 rfl) ?_
        refine lv_dup hx hb dX2_look_36 rfl ?_
        refine k_get (v := .int (nI (mG u.1))) X hK inX2 rfl hP (wC_g G ((sVf u.1 (up2 (mVf u.1) v (mP u.1) ch), u.2)) (k := 0) (by decide)) 4 (by decide) tw_1_143 rfl dX2_look_37 ?_
        refine lv_iconst (v := nI 1) hx hb dX2_look_40 (by decide) ?_
        refine lv_iadd hx hb dX2_look_41 ?_
        refine k_ti (nI_add (mG u.1) 1) ?_
        refine k_put (v := .int (nI ((mG u.1) + 1))) X hK inX2 rfl tyX2_ok nmX2 hP (wC_D hL _) hS (wC_g G ((sVf u.1 (up2 (mVf u.1) v (mP u.1) ch), u.2)) (k := 0) (by decide)) 4 (by decide) tw_1_143 rfl rfl rfl (Nat.le_of_ble_eq_true rfl) ((sG (sVf u.1 (up2 (mVf u.1) v (mP u.1) ch)) ((mG u.1) + 1), u.2)) (cs_G G ((sVf u.1 (up2 (mVf u.1) v (mP u.1) ch), u.2)) ((mG u.1) + 1)) dX2_look_42 (fun H locs hP hS => ?_)
        have ok_42 : okC G ((sG (sVf u.1 (up2 (mVf u.1) v (mP u.1) ch)) ((mG u.1) + 1), u.2)) := ok_34
        refine lv_aload_n hx hb dX2_look_45 rfl (lv_at hl 2 rfl) ?_
        refine lv_aload_n hx hb dX2_look_46 rfl (lv_at hl 2 rfl) ?_
        refine k_gn (v := .int (nI v)) X hK inX1 rfl hP (wC_n0 G ((sG (sVf u.1 (up2 (mVf u.1) v (mP u.1) ch)) ((mG u.1) + 1), u.2)) hv) 0 (by decide) ntw_1_80 rfl dX2_look_47 ?_
        refine lv_iload_n hx hb dX2_look_50 rfl (lv_at hl 0 rfl) ?_
        refine k_cv (k_runN (As := [.int (nI v), .int (nI ch)]) (rest := []) X hK hP (wC_n0 G ((sG (sVf u.1 (up2 (mVf u.1) v (mP u.1) ch)) ((mG u.1) + 1), u.2)) hv) rfl (m1_haveVote l G ((sG (sVf u.1 (up2 (mVf u.1) v (mP u.1) ch)) ((mG u.1) + 1), u.2)) hL (ok_42) (v := v) hv (b := ch) (x := v) (by omega) (show ch < mT u.1 by omega) (by omega)) ⟨rfl, rfl⟩ ntw_2_8 tw_2_10 tw_0_15 tw_1_4 tw_2_11 ⟨by decide +kernel, by decide +kernel, (by decide +kernel : (parseMethodDescriptor yX1_haveVote.desc).map (fun d => d.parameters.length) = some 2)⟩ ⟨Nat.le_of_ble_eq_true rfl, Nat.le_of_ble_eq_true rfl⟩ hl.1 rfl (Nat.le_of_ble_eq_true rfl) ⟨Nat.zero_le _, Nat.zero_le _⟩ dX2_look_51) hS (fun u_51 H locs hq_51 hP hS => ?_)
        have hP := k_su hq_51 hP
        have ok_51 : okC G ((cHaveV (gn G) ((sG (sVf u.1 (up2 (mVf u.1) v (mP u.1) ch)) ((mG u.1) + 1), u.2)) v v ch)) := ok_cHaveV (ok_42) (show ch < mT u.1 by omega)
        refine lv_aload_n hx hb dX2_look_54 rfl (lv_at hl 1 rfl) ?_
        refine lv_aload_n hx hb dX2_look_55 rfl (lv_at hl 2 rfl) ?_
        refine k_gn (v := .int (nI v)) X hK inX1 rfl hP (wC_n0 G ((cHaveV (gn G) ((sG (sVf u.1 (up2 (mVf u.1) v (mP u.1) ch)) ((mG u.1) + 1), u.2)) v v ch)) hv) 0 (by decide) ntw_1_80 rfl dX2_look_56 ?_
        refine lv_iload_n hx hb dX2_look_59 rfl (lv_at hl 0 rfl) ?_
        refine lv_aload_n hx hb dX2_look_60 rfl (lv_at hl 1 rfl) ?_
        refine k_ci (k_runV (As := []) (rest := [.int (nI ch), .int (nI v), .ref (gL G 0)]) X hK hP (wC_g G ((cHaveV (gn G) ((sG (sVf u.1 (up2 (mVf u.1) v (mP u.1) ch)) ((mG u.1) + 1), u.2)) v v ch)) (k := 0) (by decide)) rfl (m2_allNodes l G ((cHaveV (gn G) ((sG (sVf u.1 (up2 (mVf u.1) v (mP u.1) ch)) ((mG u.1) + 1), u.2)) v v ch)) hL (ok_51)) ⟨rfl, rfl⟩ tw_1_227 tw_1_229 tw_0_10 tw_1_1 tw_1_230 ⟨by decide +kernel, by decide +kernel, (by decide +kernel : (parseMethodDescriptor yX2_allNodes.desc).map (fun d => d.parameters.length) = some 0)⟩ ⟨Nat.le_of_ble_eq_true rfl, Nat.le_of_ble_eq_true rfl⟩ hl.1 rfl (Nat.le_of_ble_eq_true rfl) ⟨Nat.zero_le _, Nat.zero_le _⟩ dX2_look_61) hS (fun r_61 u_61 H locs hq_61 hP hS => ?_)
        have hP := k_su hq_61.2 hP
        refine k_ti hq_61.1 ?_
        refine k_ci (k_runV (As := [.int (nI v), .int (nI ch), .int (nI (2 ^ gn G - 1))]) (rest := []) X hK hP (wC_g G ((cHaveV (gn G) ((sG (sVf u.1 (up2 (mVf u.1) v (mP u.1) ch)) ((mG u.1) + 1), u.2)) v v ch)) (k := 0) (by decide)) rfl (m2_sendVote l G ((cHaveV (gn G) ((sG (sVf u.1 (up2 (mVf u.1) v (mP u.1) ch)) ((mG u.1) + 1), u.2)) v v ch)) hL (ok_51) (b := ch) (x := v) (by omega) (by omega) (nI (2 ^ gn G - 1))) ⟨rfl, rfl⟩ tw_2_12 tw_2_14 tw_0_16 tw_1_1 tw_2_15 ⟨by decide +kernel, by decide +kernel, (by decide +kernel : (parseMethodDescriptor yX2_sendVote.desc).map (fun d => d.parameters.length) = some 3)⟩ ⟨Nat.le_of_ble_eq_true rfl, Nat.le_of_ble_eq_true rfl⟩ hl.1 rfl (Nat.le_of_ble_eq_true rfl) ⟨Nat.zero_le _, Nat.zero_le _⟩ dX2_look_64) hS (fun r_64 u_64 H locs hq_64 hP hS => ?_)
        have hP := k_su hq_64.2 hP
        refine k_ti hq_64.1 ?_
        have ok_64 : okC G ((sndM ((cHaveV (gn G) ((sG (sVf u.1 (up2 (mVf u.1) v (mP u.1) ch)) ((mG u.1) + 1), u.2)) v v ch)).1 (11 * ch + 1 + v) (nI (2 ^ gn G - 1)) (gn G), ((cHaveV (gn G) ((sG (sVf u.1 (up2 (mVf u.1) v (mP u.1) ch)) ((mG u.1) + 1), u.2)) v v ch)).2)) := ok_snd (ok_51) _ _ _
        refine lv_pop hx hb dX2_look_67 rfl ?_
        exact k_retv X hr hlocks hP hS dX2_look_68 (by rw [cLook, hce, if_neg (Nat.ne_of_gt hCz)]; rfl)
  · have c_4 : ((mFa u.1) v) = true := (bI_ne0 _).mp c_4
    refine lv_iconst (v := -1) hx hb dX2_look_7 (by decide) ?_
    refine lv_goto (tgt := 19) hx hb dX2_look_8 (by decide) ?_
    refine lv_istore_n (lv' := [(2, .int (-1)), (0, .ref (gL G 0)), (1, .ref (gL G (11 + 5 * v)))]) hx hb dX2_look_19 rfl hl (by decide) rfl (fun ls hl => ?_)
    refine lv_iload_n hx hb dX2_look_20 rfl (lv_at hl 0 rfl) ?_
    refine lv_iconst (v := -1) hx hb dX2_look_21 (by decide) ?_
    refine lv_icmp_eq (tgt := 68) hx hb dX2_look_22 (by decide) (fun c_22 => ?_) (fun c_22 => ?_)
    · exact k_retv X hr hlocks hP hS dX2_look_68 (by rw [cLook, if_pos (by first | (rw [cCh, if_pos c_4]; done) | (rw [cCh, if_neg (by rw [c_4]; decide)]; exact hCz))])
    · exact absurd rfl c_22

set_option maxHeartbeats 4000000 in
set_option maxRecDepth 100000 in
theorem m2_letProposalCome (l : Launch) (G : kG) (u : CS) (hL : lay G) (hk : okC G u) {v : Nat} (hv : v < gn G) {b : Nat} (hb0 : 0 < b) (hbT : b < mT u.1) : KMv l G (AC G) (wC G) yX2_letProposalCome cX2_letProposalCome 3 (Option.none : Option FieldType) ({ frames := 4, cells := 0, slots := 0, locals := 95 }) [.ref (gL G 0), .ref (gL G (11 + 5 * v)), .int (nI b)] u (fun u' => u' = cLetP (gn G) u v b) := by
  refine K_of (by decide) (Nat.le_of_ble_eq_true rfl) ?_
  intro p e s m below meth c X hr hlocks hnm hK hP ls hl
  have hx := X.1
  have hb := X.2.1
  have hown := X.2.2.2.1
  have hts := X.2.2.2.2
  have hS : va_S (AC G) s.heap s.heap [] := va_S.rf
  have hl : lv_has ls 3 [(0, .ref (gL G 0)), (1, .ref (gL G (11 + 5 * v))), (2, .int (nI b))] := hl
  obtain ⟨kn4, kn10, kT1, kT61, kP40, kLd, kPar, kEp, kHt, kFc, kVf, kTp, kHf⟩ := id hk
  refine lv_aload_n hx hb dX2_letProposalCome_0 rfl (lv_at hl 0 rfl) ?_
  refine lv_dup hx hb dX2_letProposalCome_1 rfl ?_
  refine k_get (v := .int (nI (mC u.1))) X hK inX2 rfl hP (wC_g G u (k := 0) (by decide)) 5 (by decide) tw_1_144 rfl dX2_letProposalCome_2 ?_
  refine lv_iconst (v := nI 1) hx hb dX2_letProposalCome_5 (by decide) ?_
  refine lv_iadd hx hb dX2_letProposalCome_6 ?_
  refine k_ti (nI_add (mC u.1) 1) ?_
  refine k_put (v := .int (nI ((mC u.1) + 1))) X hK inX2 rfl tyX2_ok nmX2 hP (wC_D hL _) hS (wC_g G u (k := 0) (by decide)) 5 (by decide) tw_1_144 rfl rfl rfl (Nat.le_of_ble_eq_true rfl) ((sC u.1 ((mC u.1) + 1), u.2)) (cs_C G u ((mC u.1) + 1)) dX2_letProposalCome_7 (fun H locs hP hS => ?_)
  have ok_7 : okC G ((sC u.1 ((mC u.1) + 1), u.2)) := hk
  refine lv_aload_n hx hb dX2_letProposalCome_10 rfl (lv_at hl 0 rfl) ?_
  refine lv_aload_n hx hb dX2_letProposalCome_11 rfl (lv_at hl 1 rfl) ?_
  refine lv_iload_n hx hb dX2_letProposalCome_12 rfl (lv_at hl 2 rfl) ?_
  refine k_cv (k_runV (As := [.ref (gL G (11 + 5 * v)), .int (nI b)]) (rest := []) X hK hP (wC_g G ((sC u.1 ((mC u.1) + 1), u.2)) (k := 0) (by decide)) rfl (m2_takeProposal l G ((sC u.1 ((mC u.1) + 1), u.2)) hL (ok_7) (v := v) hv (b := b) (by omega) (show b < mT u.1 by omega)) ⟨rfl, rfl⟩ tw_1_197 tw_1_199 tw_0_5 tw_1_1 tw_1_200 ⟨by decide +kernel, by decide +kernel, (by decide +kernel : (parseMethodDescriptor yX2_takeProposal.desc).map (fun d => d.parameters.length) = some 2)⟩ ⟨Nat.le_of_ble_eq_true rfl, Nat.le_of_ble_eq_true rfl⟩ hl.1 rfl (Nat.le_of_ble_eq_true rfl) ⟨Nat.zero_le _, Nat.zero_le _⟩ dX2_letProposalCome_13) hS (fun u_13 H locs hq_13 hP hS => ?_)
  have hP := k_su hq_13 hP
  have ok_13 : okC G ((cTakeP (gn G) ((sC u.1 ((mC u.1) + 1), u.2)) v b)) := ok_takeP (ok_7) (show b < mT u.1 by omega)
  refine lv_aload_n hx hb dX2_letProposalCome_16 rfl (lv_at hl 0 rfl) ?_
  refine lv_aload_n hx hb dX2_letProposalCome_17 rfl (lv_at hl 1 rfl) ?_
  refine k_cv (k_runV (As := [.ref (gL G (11 + 5 * v))]) (rest := []) X hK hP (wC_g G ((cTakeP (gn G) ((sC u.1 ((mC u.1) + 1), u.2)) v b)) (k := 0) (by decide)) rfl (m2_look l G ((cTakeP (gn G) ((sC u.1 ((mC u.1) + 1), u.2)) v b)) hL (ok_13) (v := v) hv) ⟨rfl, rfl⟩ tw_2_0 tw_2_2 tw_0_13 tw_1_1 tw_2_3 ⟨by decide +kernel, by decide +kernel, (by decide +kernel : (parseMethodDescriptor yX2_look.desc).map (fun d => d.parameters.length) = some 1)⟩ ⟨Nat.le_of_ble_eq_true rfl, Nat.le_of_ble_eq_true rfl⟩ hl.1 rfl (Nat.le_of_ble_eq_true rfl) ⟨Nat.zero_le _, Nat.zero_le _⟩ dX2_letProposalCome_18) hS (fun u_18 H locs hq_18 hP hS => ?_)
  have hP := k_su hq_18 hP
  have ok_18 : okC G ((cLook (gn G) ((cTakeP (gn G) ((sC u.1 ((mC u.1) + 1), u.2)) v b)) v)) := ok_look (ok_13) _
  exact k_retv X hr hlocks hP hS dX2_letProposalCome_21 rfl

set_option maxHeartbeats 4000000 in
set_option maxRecDepth 100000 in
theorem m2_letVoteCome (l : Launch) (G : kG) (u : CS) (hL : lay G) (hk : okC G u) {v : Nat} (hv : v < gn G) {b x : Nat} (hb0 : 0 < b) (hbT : b < mT u.1) (hxx : x < 10) : KMv l G (AC G) (wC G) yX2_letVoteCome cX2_letVoteCome 4 (Option.none : Option FieldType) ({ frames := 4, cells := 0, slots := 0, locals := 96 }) [.ref (gL G 0), .ref (gL G (11 + 5 * v)), .int (nI x), .int (nI b)] u (fun u' => u' = cLetV (gn G) u v x b) := by
  refine K_of (by decide) (Nat.le_of_ble_eq_true rfl) ?_
  intro p e s m below meth c X hr hlocks hnm hK hP ls hl
  have hx := X.1
  have hb := X.2.1
  have hown := X.2.2.2.1
  have hts := X.2.2.2.2
  have hS : va_S (AC G) s.heap s.heap [] := va_S.rf
  have hl : lv_has ls 4 [(0, .ref (gL G 0)), (1, .ref (gL G (11 + 5 * v))), (2, .int (nI x)), (3, .int (nI b))] := hl
  obtain ⟨kn4, kn10, kT1, kT61, kP40, kLd, kPar, kEp, kHt, kFc, kVf, kTp, kHf⟩ := id hk
  refine lv_aload_n hx hb dX2_letVoteCome_0 rfl (lv_at hl 0 rfl) ?_
  refine lv_dup hx hb dX2_letVoteCome_1 rfl ?_
  refine k_get (v := .int (nI (mC u.1))) X hK inX2 rfl hP (wC_g G u (k := 0) (by decide)) 5 (by decide) tw_1_144 rfl dX2_letVoteCome_2 ?_
  refine lv_iconst (v := nI 1) hx hb dX2_letVoteCome_5 (by decide) ?_
  refine lv_iadd hx hb dX2_letVoteCome_6 ?_
  refine k_ti (nI_add (mC u.1) 1) ?_
  refine k_put (v := .int (nI ((mC u.1) + 1))) X hK inX2 rfl tyX2_ok nmX2 hP (wC_D hL _) hS (wC_g G u (k := 0) (by decide)) 5 (by decide) tw_1_144 rfl rfl rfl (Nat.le_of_ble_eq_true rfl) ((sC u.1 ((mC u.1) + 1), u.2)) (cs_C G u ((mC u.1) + 1)) dX2_letVoteCome_7 (fun H locs hP hS => ?_)
  have ok_7 : okC G ((sC u.1 ((mC u.1) + 1), u.2)) := hk
  refine lv_aload_n hx hb dX2_letVoteCome_10 rfl (lv_at hl 0 rfl) ?_
  refine lv_aload_n hx hb dX2_letVoteCome_11 rfl (lv_at hl 1 rfl) ?_
  refine lv_iload_n hx hb dX2_letVoteCome_12 rfl (lv_at hl 2 rfl) ?_
  refine lv_iload_n hx hb dX2_letVoteCome_13 rfl (lv_at hl 3 rfl) ?_
  refine k_cv (k_runV (As := [.ref (gL G (11 + 5 * v)), .int (nI x), .int (nI b)]) (rest := []) X hK hP (wC_g G ((sC u.1 ((mC u.1) + 1), u.2)) (k := 0) (by decide)) rfl (m2_takeVote l G ((sC u.1 ((mC u.1) + 1), u.2)) hL (ok_7) (v := v) hv (b := b) (x := x) (by omega) (show b < mT u.1 by omega) (by omega)) ⟨rfl, rfl⟩ tw_2_40 tw_2_42 tw_0_21 tw_1_1 tw_2_43 ⟨by decide +kernel, by decide +kernel, (by decide +kernel : (parseMethodDescriptor yX2_takeVote.desc).map (fun d => d.parameters.length) = some 3)⟩ ⟨Nat.le_of_ble_eq_true rfl, Nat.le_of_ble_eq_true rfl⟩ hl.1 rfl (Nat.le_of_ble_eq_true rfl) ⟨Nat.zero_le _, Nat.zero_le _⟩ dX2_letVoteCome_14) hS (fun u_14 H locs hq_14 hP hS => ?_)
  have hP := k_su hq_14 hP
  have ok_14 : okC G ((cTakeV (gn G) ((sC u.1 ((mC u.1) + 1), u.2)) v x b)) := ok_takeV (ok_7) (show b < mT u.1 by omega)
  refine lv_aload_n hx hb dX2_letVoteCome_17 rfl (lv_at hl 0 rfl) ?_
  refine lv_aload_n hx hb dX2_letVoteCome_18 rfl (lv_at hl 1 rfl) ?_
  refine k_cv (k_runV (As := [.ref (gL G (11 + 5 * v))]) (rest := []) X hK hP (wC_g G ((cTakeV (gn G) ((sC u.1 ((mC u.1) + 1), u.2)) v x b)) (k := 0) (by decide)) rfl (m2_look l G ((cTakeV (gn G) ((sC u.1 ((mC u.1) + 1), u.2)) v x b)) hL (ok_14) (v := v) hv) ⟨rfl, rfl⟩ tw_2_0 tw_2_2 tw_0_13 tw_1_1 tw_2_3 ⟨by decide +kernel, by decide +kernel, (by decide +kernel : (parseMethodDescriptor yX2_look.desc).map (fun d => d.parameters.length) = some 1)⟩ ⟨Nat.le_of_ble_eq_true rfl, Nat.le_of_ble_eq_true rfl⟩ hl.1 rfl (Nat.le_of_ble_eq_true rfl) ⟨Nat.zero_le _, Nat.zero_le _⟩ dX2_letVoteCome_19) hS (fun u_19 H locs hq_19 hP hS => ?_)
  have hP := k_su hq_19 hP
  have ok_19 : okC G ((cLook (gn G) ((cTakeV (gn G) ((sC u.1 ((mC u.1) + 1), u.2)) v x b)) v)) := ok_look (ok_14) _
  exact k_retv X hr hlocks hP hS dX2_letVoteCome_22 rfl
