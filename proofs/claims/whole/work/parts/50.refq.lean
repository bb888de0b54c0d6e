set_option maxHeartbeats 4000000 in
set_option maxRecDepth 100000 in
theorem m3_lead (l : Launch) (G : kG) (u : CS) (Y : YS) (hL : layR G) (hI : Inv G u) (hY : InvY (gn G) u.1 Y) (x y : Int32) : KMi l G (AR G) (wR G) yX3_lead cX3_lead 5 (Option.some FieldType.int) ({ frames := 2, cells := 0, slots := 0, locals := 46 }) [.ref (gL G 0), .int (x), .int (y)] (u.1, Y) (fun zz rr => RP (gn G) (pLead (gn G) u x y) zz rr) := by
  refine K_of (by decide) (Nat.le_of_ble_eq_true rfl) ?_
  intro p e s m below meth c X hr hlocks hnm hK hP ls hl
  have hx := X.1
  have hb := X.2.1
  have hown := X.2.2.2.1
  have hts := X.2.2.2.2
  have hS : va_S (AR G) s.heap s.heap [] := va_S.rf
  have hl : lv_has ls 5 [(0, .ref (gL G 0)), (1, .int (x)), (2, .int (y))] := hl
  have hk : okR G (u.1, Y) := okR_of hI.1.1 Y
  obtain ⟨⟨kn4, kn10⟩, ⟨kT1, kT61⟩, kP40, kLd, kPar, kEp, kHt, kVf⟩ := id hk
  dsimp only at kT1 kT61 kP40 kLd kPar kEp kHt kVf
  refine lv_aload_n hx hb dX3_lead_0 rfl (lv_at hl 0 rfl) ?_
  refine lv_iconst (v := nI 0) hx hb dX3_lead_1 (by decide) ?_
  refine k_put (v := .int (nI 0)) X hK inX3 rfl tyX3_ok nmX3 hP (wR_D hL _) hS (wR_g G ((u.1, Y)) (k := 0) (by decide)) 0 (by decide) tw_2_135 rfl rfl rfl (Nat.le_of_ble_eq_true rfl) ((u.1, Y)) (rs_th G ((u.1, Y))) dX3_lead_2 (fun H locs hP hS => ?_)
  refine lv_iload_n hx hb dX3_lead_5 rfl (lv_at hl 1 rfl) ?_
  refine k_ci (k_runS (As := [.int (x)]) (rest := []) X hK hP (m3_isEpoch l G (AR G) (wR G) ((u.1, Y)) x) ⟨rfl, rfl⟩ tw_2_222 tw_2_223 tw_1_6 tw_2_224 ⟨by decide +kernel, by decide +kernel, (by decide +kernel : (parseMethodDescriptor yX3_isEpoch.desc).map (fun d => d.parameters.length) = some 1)⟩ ⟨Nat.le_of_ble_eq_true rfl, Nat.le_of_ble_eq_true rfl⟩ hl.1 rfl (Nat.le_of_ble_eq_true rfl) ⟨Nat.zero_le _, Nat.zero_le _⟩ dX3_lead_6) hS (fun r_6 u_6 H locs hq_6 hP hS => ?_)
  have hP := k_su hq_6.1 hP
  rcases hq_6.2 with ⟨j_6, hj_6, hx_6, hr_6⟩ | ⟨hz_6, hr_6⟩
  · subst hx_6
    subst hr_6
    refine lv_if_eq (tgt := 20) hx hb dX3_lead_9 (by decide) (fun c_9 => ?_) (fun c_9 => ?_)
    · exact absurd c_9 (by decide)
    · refine lv_aload_n hx hb dX3_lead_12 rfl (lv_at hl 0 rfl) ?_
      refine lv_iload_n hx hb dX3_lead_13 rfl (lv_at hl 2 rfl) ?_
      refine k_ci (k_runV (As := [.int (y)]) (rest := []) X hK hP (wR_g G ((u.1, Y)) (k := 0) (by decide)) rfl (m3_isNode l G ((u.1, Y)) hL (hk) y) ⟨rfl, rfl⟩ tw_2_229 tw_2_231 tw_0_27 tw_1_6 tw_2_232 ⟨by decide +kernel, by decide +kernel, (by decide +kernel : (parseMethodDescriptor yX3_isNode.desc).map (fun d => d.parameters.length) = some 1)⟩ ⟨Nat.le_of_ble_eq_true rfl, Nat.le_of_ble_eq_true rfl⟩ hl.1 rfl (Nat.le_of_ble_eq_true rfl) ⟨Nat.zero_le _, Nat.zero_le _⟩ dX3_lead_14) hS (fun r_14 u_14 H locs hq_14 hP hS => ?_)
      have hP := k_su hq_14.1 hP
      rcases hq_14.2 with ⟨j_14, hj_14, hx_14, hr_14⟩ | ⟨hz_14, hr_14⟩
      · subst hx_14
        subst hr_14
        replace hj_14 : j_14 < gn G := hj_14
        refine lv_if_ne (tgt := 23) hx hb dX3_lead_17 (by decide) (fun c_17 => ?_) (fun c_17 => ?_)
        · refine lv_iload_n hx hb dX3_lead_23 rfl (lv_at hl 1 rfl) ?_
          refine lv_aload_n hx hb dX3_lead_24 rfl (lv_at hl 0 rfl) ?_
          refine k_get (v := .int (nI (mP u.1))) X hK inX3 rfl hP (wR_g G ((u.1, Y)) (k := 0) (by decide)) 5 (by decide) tw_2_140 rfl dX3_lead_25 ?_
          refine lv_icmp_gt (tgt := 35) hx hb dX3_lead_28 (by decide) (fun c_28 => ?_) (fun c_28 => ?_)
          · have c_28 : (mP u.1) < j_6 := cLt c_28 (by omega) (by omega)
            refine lv_iconst (v := nI 0) hx hb dX3_lead_35 (by decide) ?_
            refine k_ti (show nI 0 = bI false from rfl) ?_
            refine lv_istore_n (lv' := [(3, .int (bI false)), (0, .ref (gL G 0)), (1, .int (nI j_6)), (2, .int (nI j_14))]) hx hb dX3_lead_36 rfl hl (by decide) rfl (fun ls hl => ?_)
            refine lv_iconst (v := nI 1) hx hb dX3_lead_37 (by decide) ?_
            refine lv_istore (lv' := [(4, .int (nI 1)), (3, .int (bI false)), (0, .ref (gL G 0)), (1, .int (nI j_6)), (2, .int (nI j_14))]) hx hb dX3_lead_38 hl (by decide) rfl (fun ls hl => ?_)
            have loop_40 : ∀ (d_40 : Nat) (b : Nat) (mb : Bool), mT u.1 - b = d_40 → (1 ≤ b) → (b ≤ mT u.1) → (mb = (decide (j_6 ≤ mP u.1) || anyEp u.1 j_6 b)) → ∀ (H : Heap) (locs : List Loc) (ls : Array Slot), va_P (gD G) vwCl ((wR G) ((u.1, Y))) H → va_S (AR G) s.heap H locs → lv_has ls 5 [(0, .ref (gL G 0)), (1, .int (nI j_6)), (2, .int (nI j_14)), (3, .int (bI mb)), (4, .int (nI b))] → W p l e ({ frames := 2, cells := 0, slots := 0, locals := 46 } : Room) s m ([.ref (gL G 0), .int ((nI j_6)), .int ((nI j_14))] : List Value).toArray below meth c H locs 0 0 (MQ below (va_Qi (fun zz rr => RP (gn G) (pLead (gn G) u (nI j_6) (nI j_14)) zz rr) (KB G (wR G)) (AR G)) ([.ref (gL G 0), .int ((nI j_6)), .int ((nI j_14))] : List Value).toArray s 0 0 (AR G)) (F0 m 40 ls []) := by
              intro d_40
              induction d_40 using Nat.strongRecOn with
              | ind d_40 ih_40 =>
                intro b mb hd_40 hb1 hbT hmb H locs ls hP hS hl
                have hEb := kEp b
                refine lv_iload hx hb dX3_lead_40 (lv_at hl 4 rfl) ?_
                refine lv_aload_n hx hb dX3_lead_42 rfl (lv_at hl 0 rfl) ?_
                refine k_get (v := .int (nI (mT u.1))) X hK inX3 rfl hP (wR_g G ((u.1, Y)) (k := 0) (by decide)) 6 (by decide) tw_2_141 rfl dX3_lead_43 ?_
                refine lv_icmp_ge (tgt := 76) hx hb dX3_lead_46 (by decide) (fun c_46 => ?_) (fun c_46 => ?_)
                · have c_46 : (mT u.1) ≤ b := cLe c_46 (by omega) (by omega)
                  have hmb2 : (decide (j_6 ≤ mP u.1) || hasEp u.1 j_6) = mb := by rw [hmb, show b = mT u.1 by omega]; rfl
                  refine lv_iload_n hx hb dX3_lead_76 rfl (lv_at hl 3 rfl) ?_
                  refine lv_if_eq (tgt := 83) hx hb dX3_lead_77 (by decide) (fun c_77 => ?_) (fun c_77 => ?_)
                  · have c_77 : mb = false := (bI_eq0 _).mp c_77
                    refine lv_aload_n hx hb dX3_lead_83 rfl (lv_at hl 0 rfl) ?_
                    refine k_get (v := .ref (gL G 3)) X hK inX3 rfl hP (wR_g G ((u.1, Y)) (k := 0) (by decide)) 4 (by decide) tw_2_139 rfl dX3_lead_84 ?_
                    refine lv_iload_n hx hb dX3_lead_87 rfl (lv_at hl 1 rfl) ?_
                    refine k_ild (k := j_6) (v := nI (mLd u.1 j_6)) X hK hP (wR_g G ((u.1, Y)) (k := 3) (by decide)) (by omega) (by decide) rfl dX3_lead_88 ?_
                    refine lv_istore (lv' := [(4, .int (nI (mLd u.1 j_6))), (0, .ref (gL G 0)), (1, .int (nI j_6)), (2, .int (nI j_14)), (3, .int (bI mb))]) hx hb dX3_lead_89 hl (by decide) rfl (fun ls hl => ?_)
                    refine lv_aload_n hx hb dX3_lead_91 rfl (lv_at hl 1 rfl) ?_
                    refine k_get (v := .ref (gL G 3)) X hK inX3 rfl hP (wR_g G ((u.1, Y)) (k := 0) (by decide)) 4 (by decide) tw_2_139 rfl dX3_lead_92 ?_
                    refine lv_iload_n hx hb dX3_lead_95 rfl (lv_at hl 2 rfl) ?_
                    refine lv_iload_n hx hb dX3_lead_96 rfl (lv_at hl 3 rfl) ?_
                    refine k_ist (k := j_6) (x := nI j_14) X hK hP (wR_D hL _) hS (wR_g G ((u.1, Y)) (k := 3) (by decide)) (by omega) (by decide) ((sLd u.1 (va_up (mLd u.1) j_6 j_14), Y)) (rs_Ld G ((u.1, Y)) j_6 j_14) dX3_lead_97 (fun H locs hP hS => ?_)
                    refine lv_iload hx hb dX3_lead_98 (lv_at hl 0 rfl) ?_
                    exact k_reti X hr hlocks hP hS dX3_lead_100 (rp (w := (sLd u.1 (va_up (mLd u.1) j_6 j_14), u.2)) (by simp only [pLead, ixE_some hj_6, ix_some hj_14 (show gn G < 2 ^ 31 by omega)]; rw [if_neg (by rw [hmb2, c_77]; decide)]) hY)
                  · have c_77 : mb = true := (bI_ne0 _).mp c_77
                    refine lv_bipush (v := -3) hx hb dX3_lead_80 (by decide) ?_
                    exact k_reti X hr hlocks hP hS dX3_lead_82 (rp (w := u) (by simp only [pLead, ixE_some hj_6, ix_some hj_14 (show gn G < 2 ^ 31 by omega)]; rw [if_pos (by rw [hmb2]; exact c_77)]) hY)
                · have c_46 : b < (mT u.1) := cNle c_46 (by omega) (by omega)
                  refine lv_iload_n hx hb dX3_lead_49 rfl (lv_at hl 3 rfl) ?_
                  refine lv_if_ne (tgt := 64) hx hb dX3_lead_50 (by decide) (fun c_50 => ?_) (fun c_50 => ?_)
                  · have c_50 : mb = true := (bI_ne0 _).mp c_50
                    refine lv_iconst (v := nI 1) hx hb dX3_lead_64 (by decide) ?_
                    refine lv_goto (tgt := 69) hx hb dX3_lead_65 (by decide) ?_
                    refine k_ti (show nI 1 = bI true from rfl) ?_
                    refine lv_istore_n (lv' := [(3, .int (bI true)), (0, .ref (gL G 0)), (1, .int (nI j_6)), (2, .int (nI j_14)), (4, .int (nI b))]) hx hb dX3_lead_69 rfl hl (by decide) rfl (fun ls hl => ?_)
                    refine lv_iinc (v := nI (b + 1)) (lv' := [(4, .int (nI (b + 1))), (3, .int (bI true)), (0, .ref (gL G 0)), (1, .int (nI j_6)), (2, .int (nI j_14))]) hx hb dX3_lead_70 hl (k := 4) rfl (nI_add b 1) (by decide) rfl (fun ls hl => ?_)
                    refine lv_goto (tgt := 40) hx hb dX3_lead_73 (by decide) ?_
                    exact ih_40 (mT u.1 - (b + 1)) (by omega) (b + 1) true rfl (by omega) (by omega) (by rw [anyEp_s, ← Bool.or_assoc, ← hmb]; first | (rw [c_50]; rfl) | (rw [c_50, decide_eq_true c_61]; rfl) | (rw [c_50, decide_eq_false c_61]; rfl)) _ _ _ hP hS (lv_sub hl [2, 3, 4, 1, 0] rfl)
                  · have c_50 : mb = false := (bI_eq0 _).mp c_50
                    refine lv_aload_n hx hb dX3_lead_53 rfl (lv_at hl 0 rfl) ?_
                    refine k_get (v := .ref (gL G 5)) X hK inX3 rfl hP (wR_g G ((u.1, Y)) (k := 0) (by decide)) 8 (by decide) tw_2_143 rfl dX3_lead_54 ?_
                    refine lv_iload hx hb dX3_lead_57 (lv_at hl 4 rfl) ?_
                    refine k_ild (k := b) (v := nI (mEp u.1 b)) X hK hP (wR_g G ((u.1, Y)) (k := 5) (by decide)) (by omega) (by decide) rfl dX3_lead_59 ?_
                    refine lv_iload_n hx hb dX3_lead_60 rfl (lv_at hl 1 rfl) ?_
                    refine lv_icmp_ne (tgt := 68) hx hb dX3_lead_61 (by decide) (fun c_61 => ?_) (fun c_61 => ?_)
                    · have c_61 : (mEp u.1 b) ≠ j_6 := cNe c_61 (by omega) (by omega)
                      refine lv_iconst (v := nI 0) hx hb dX3_lead_68 (by decide) ?_
                      refine k_ti (show nI 0 = bI false from rfl) ?_
                      refine lv_istore_n (lv' := [(3, .int (bI false)), (0, .ref (gL G 0)), (1, .int (nI j_6)), (2, .int (nI j_14)), (4, .int (nI b))]) hx hb dX3_lead_69 rfl hl (by decide) rfl (fun ls hl => ?_)
                      refine lv_iinc (v := nI (b + 1)) (lv' := [(4, .int (nI (b + 1))), (3, .int (bI false)), (0, .ref (gL G 0)), (1, .int (nI j_6)), (2, .int (nI j_14))]) hx hb dX3_lead_70 hl (k := 4) rfl (nI_add b 1) (by decide) rfl (fun ls hl => ?_)
                      refine lv_goto (tgt := 40) hx hb dX3_lead_73 (by decide) ?_
                      exact ih_40 (mT u.1 - (b + 1)) (by omega) (b + 1) false rfl (by omega) (by omega) (by rw [anyEp_s, ← Bool.or_assoc, ← hmb]; first | (rw [c_50]; rfl) | (rw [c_50, decide_eq_true c_61]; rfl) | (rw [c_50, decide_eq_false c_61]; rfl)) _ _ _ hP hS (lv_sub hl [2, 3, 4, 1, 0] rfl)
                    · have c_61 : (mEp u.1 b) = j_6 := cEq c_61 (by omega) (by omega)
                      refine lv_iconst (v := nI 1) hx hb dX3_lead_64 (by decide) ?_
                      refine lv_goto (tgt := 69) hx hb dX3_lead_65 (by decide) ?_
                      refine k_ti (show nI 1 = bI true from rfl) ?_
                      refine lv_istore_n (lv' := [(3, .int (bI true)), (0, .ref (gL G 0)), (1, .int (nI j_6)), (2, .int (nI j_14)), (4, .int (nI b))]) hx hb dX3_lead_69 rfl hl (by decide) rfl (fun ls hl => ?_)
                      refine lv_iinc (v := nI (b + 1)) (lv' := [(4, .int (nI (b + 1))), (3, .int (bI true)), (0, .ref (gL G 0)), (1, .int (nI j_6)), (2, .int (nI j_14))]) hx hb dX3_lead_70 hl (k := 4) rfl (nI_add b 1) (by decide) rfl (fun ls hl => ?_)
                      refine lv_goto (tgt := 40) hx hb dX3_lead_73 (by decide) ?_
                      exact ih_40 (mT u.1 - (b + 1)) (by omega) (b + 1) true rfl (by omega) (by omega) (by rw [anyEp_s, ← Bool.or_assoc, ← hmb]; first | (rw [c_50]; rfl) | (rw [c_50, decide_eq_true c_61]; rfl) | (rw [c_50, decide_eq_false c_61]; rfl)) _ _ _ hP hS (lv_sub hl [2, 3, 4, 1, 0] rfl)
            exact loop_40 _ 1 false rfl (Nat.le_refl _) (kT1) (by rw [anyEp_1 hI.1.2.2.2.2.2.1.1 hj_6.1, decide_eq_false (by omega)]; rfl) _ _ _ hP hS (lv_sub hl [2, 3, 4, 1, 0] rfl)
          · have c_28 : j_6 ≤ (mP u.1) := cNlt c_28 (by omega) (by omega)
            refine lv_iconst (v := nI 1) hx hb dX3_lead_31 (by decide) ?_
            refine lv_goto (tgt := 36) hx hb dX3_lead_32 (by decide) ?_
            refine k_ti (show nI 1 = bI true from rfl) ?_
            refine lv_istore_n (lv' := [(3, .int (bI true)), (0, .ref (gL G 0)), (1, .int (nI j_6)), (2, .int (nI j_14))]) hx hb dX3_lead_36 rfl hl (by decide) rfl (fun ls hl => ?_)
            refine lv_iconst (v := nI 1) hx hb dX3_lead_37 (by decide) ?_
            refine lv_istore (lv' := [(4, .int (nI 1)), (3, .int (bI true)), (0, .ref (gL G 0)), (1, .int (nI j_6)), (2, .int (nI j_14))]) hx hb dX3_lead_38 hl (by decide) rfl (fun ls hl => ?_)
            have loop_40 : ∀ (d_40 : Nat) (b : Nat) (mb : Bool), mT u.1 - b = d_40 → (1 ≤ b) → (b ≤ mT u.1) → (mb = (decide (j_6 ≤ mP u.1) || anyEp u.1 j_6 b)) → ∀ (H : Heap) (locs : List Loc) (ls : Array Slot), va_P (gD G) vwCl ((wR G) ((u.1, Y))) H → va_S (AR G) s.heap H locs → lv_has ls 5 [(0, .ref (gL G 0)), (1, .int (nI j_6)), (2, .int (nI j_14)), (3, .int (bI mb)), (4, .int (nI b))] → W p l e ({ frames := 2, cells := 0, slots := 0, locals := 46 } : Room) s m ([.ref (gL G 0), .int ((nI j_6)), .int ((nI j_14))] : List Value).toArray below meth c H locs 0 0 (MQ below (va_Qi (fun zz rr => RP (gn G) (pLead (gn G) u (nI j_6) (nI j_14)) zz rr) (KB G (wR G)) (AR G)) ([.ref (gL G 0), .int ((nI j_6)), .int ((nI j_14))] : List Value).toArray s 0 0 (AR G)) (F0 m 40 ls []) := by
              intro d_40
              induction d_40 using Nat.strongRecOn with
              | ind d_40 ih_40 =>
                intro b mb hd_40 hb1 hbT hmb H locs ls hP hS hl
                have hEb := kEp b
                refine lv_iload hx hb dX3_lead_40 (lv_at hl 4 rfl) ?_
                refine lv_aload_n hx hb dX3_lead_42 rfl (lv_at hl 0 rfl) ?_
                refine k_get (v := .int (nI (mT u.1))) X hK inX3 rfl hP (wR_g G ((u.1, Y)) (k := 0) (by decide)) 6 (by decide) tw_2_141 rfl dX3_lead_43 ?_
                refine lv_icmp_ge (tgt := 76) hx hb dX3_lead_46 (by decide) (fun c_46 => ?_) (fun c_46 => ?_)
                · have c_46 : (mT u.1) ≤ b := cLe c_46 (by omega) (by omega)
                  have hmb2 : (decide (j_6 ≤ mP u.1) || hasEp u.1 j_6) = mb := by rw [hmb, show b = mT u.1 by omega]; rfl
                  refine lv_iload_n hx hb dX3_lead_76 rfl (lv_at hl 3 rfl) ?_
                  refine lv_if_eq (tgt := 83) hx hb dX3_lead_77 (by decide) (fun c_77 => ?_) (fun c_77 => ?_)
                  · have c_77 : mb = false := (bI_eq0 _).mp c_77
                    refine lv_aload_n hx hb dX3_lead_83 rfl (lv_at hl 0 rfl) ?_
                    refine k_get (v := .ref (gL G 3)) X hK inX3 rfl hP (wR_g G ((u.1, Y)) (k := 0) (by decide)) 4 (by decide) tw_2_139 rfl dX3_lead_84 ?_
                    refine lv_iload_n hx hb dX3_lead_87 rfl (lv_at hl 1 rfl) ?_
                    refine k_ild (k := j_6) (v := nI (mLd u.1 j_6)) X hK hP (wR_g G ((u.1, Y)) (k := 3) (by decide)) (by omega) (by decide) rfl dX3_lead_88 ?_
                    refine lv_istore (lv' := [(4, .int (nI (mLd u.1 j_6))), (0, .ref (gL G 0)), (1, .int (nI j_6)), (2, .int (nI j_14)), (3, .int (bI mb))]) hx hb dX3_lead_89 hl (by decide) rfl (fun ls hl => ?_)
                    refine lv_aload_n hx hb dX3_lead_91 rfl (lv_at hl 1 rfl) ?_
                    refine k_get (v := .ref (gL G 3)) X hK inX3 rfl hP (wR_g G ((u.1, Y)) (k := 0) (by decide)) 4 (by decide) tw_2_139 rfl dX3_lead_92 ?_
                    refine lv_iload_n hx hb dX3_lead_95 rfl (lv_at hl 2 rfl) ?_
                    refine lv_iload_n hx hb dX3_lead_96 rfl (lv_at hl 3 rfl) ?_
                    refine k_ist (k := j_6) (x := nI j_14) X hK hP (wR_D hL _) hS (wR_g G ((u.1, Y)) (k := 3) (by decide)) (by omega) (by decide) ((sLd u.1 (va_up (mLd u.1) j_6 j_14), Y)) (rs_Ld G ((u.1, Y)) j_6 j_14) dX3_lead_97 (fun H locs hP hS => ?_)
                    refine lv_iload hx hb dX3_lead_98 (lv_at hl 0 rfl) ?_
                    exact k_reti X hr hlocks hP hS dX3_lead_100 (rp (w := (sLd u.1 (va_up (mLd u.1) j_6 j_14), u.2)) (by simp only [pLead, ixE_some hj_6, ix_some hj_14 (show gn G < 2 ^ 31 by omega)]; rw [if_neg (by rw [hmb2, c_77]; decide)]) hY)
                  · have c_77 : mb = true := (bI_ne0 _).mp c_77
                    refine lv_bipush (v := -3) hx hb dX3_lead_80 (by decide) ?_
                    exact k_reti X hr hlocks hP hS dX3_lead_82 (rp (w := u) (by simp only [pLead, ixE_some hj_6, ix_some hj_14 (show gn G < 2 ^ 31 by omega)]; rw [if_pos (by rw [hmb2]; exact c_77)]) hY)
                · have c_46 : b < (mT u.1) := cNle c_46 (by omega) (by omega)
                  refine lv_iload_n hx hb dX3_lead_49 rfl (lv_at hl 3 rfl) ?_
                  refine lv_if_ne (tgt := 64) hx hb dX3_lead_50 (by decide) (fun c_50 => ?_) (fun c_50 => ?_)
                  · have c_50 : mb = true := (bI_ne0 _).mp c_50
                    refine lv_iconst (v := nI 1) hx hb dX3_lead_64 (by decide) ?_
                    refine lv_goto (tgt := 69) hx hb dX3_lead_65 (by decide) ?_
                    refine k_ti (show nI 1 = bI true from rfl) ?_
                    refine lv_istore_n (lv' := [(3, .int (bI true)), (0, .ref (gL G 0)), (1, .int (nI j_6)), (2, .int (nI j_14)), (4, .int (nI b))]) hx hb dX3_lead_69 rfl hl (by decide) rfl (fun ls hl => ?_)
                    refine lv_iinc (v := nI (b + 1)) (lv' := [(4, .int (nI (b + 1))), (3, .int (bI true)), (0, .ref (gL G 0)), (1, .int (nI j_6)), (2, .int (nI j_14))]) hx hb dX3_lead_70 hl (k := 4) rfl (nI_add b 1) (by decide) rfl (fun ls hl => ?_)
                    refine lv_goto (tgt := 40) hx hb dX3_lead_73 (by decide) ?_
                    exact ih_40 (mT u.1 - (b + 1)) (by omega) (b + 1) true rfl (by omega) (by omega) (by rw [anyEp_s, ← Bool.or_assoc, ← hmb]; first | (rw [c_50]; rfl) | (rw [c_50, decide_eq_true c_61]; rfl) | (rw [c_50, decide_eq_false c_61]; rfl)) _ _ _ hP hS (lv_sub hl [2, 3, 4, 1, 0] rfl)
                  · have c_50 : mb = false := (bI_eq0 _).mp c_50
                    refine lv_aload_n hx hb dX3_lead_53 rfl (lv_at hl 0 rfl) ?_
                    refine k_get (v := .ref (gL G 5)) X hK inX3 rfl hP (wR_g G ((u.1, Y)) (k := 0) (by decide)) 8 (by decide) tw_2_143 rfl dX3_lead_54 ?_
                    refine lv_iload hx hb dX3_lead_57 (lv_at hl 4 rfl) ?_
                    refine k_ild (k := b) (v := nI (mEp u.1 b)) X hK hP (wR_g G ((u.1, Y)) (k := 5) (by decide)) (by omega) (by decide) rfl dX3_lead_59 ?_
                    refine lv_iload_n hx hb dX3_lead_60 rfl (lv_at hl 1 rfl) ?_
                    refine lv_icmp_ne (tgt := 68) hx hb dX3_lead_61 (by decide) (fun c_61 => ?_) (fun c_61 => ?_)
                    · have c_61 : (mEp u.1 b) ≠ j_6 := cNe c_61 (by omega) (by omega)
                      refine lv_iconst (v := nI 0) hx hb dX3_lead_68 (by decide) ?_
                      refine k_ti (show nI 0 = bI false from rfl) ?_
                      refine lv_istore_n (lv' := [(3, .int (bI false)), (0, .ref (gL G 0)), (1, .int (nI j_6)), (2, .int (nI j_14)), (4, .int (nI b))]) hx hb dX3_lead_69 rfl hl (by decide) rfl (fun ls hl => ?_)
                      refine lv_iinc (v := nI (b + 1)) (lv' := [(4, .int (nI (b + 1))), (3, .int (bI false)), (0, .ref (gL G 0)), (1, .int (nI j_6)), (2, .int (nI j_14))]) hx hb dX3_lead_70 hl (k := 4) rfl (nI_add b 1) (by decide) rfl (fun ls hl => ?_)
                      refine lv_goto (tgt := 40) hx hb dX3_lead_73 (by decide) ?_
                      exact ih_40 (mT u.1 - (b + 1)) (by omega) (b + 1) false rfl (by omega) (by omega) (by rw [anyEp_s, ← Bool.or_assoc, ← hmb]; first | (rw [c_50]; rfl) | (rw [c_50, decide_eq_true c_61]; rfl) | (rw [c_50, decide_eq_false c_61]; rfl)) _ _ _ hP hS (lv_sub hl [2, 3, 4, 1, 0] rfl)
                    · have c_61 : (mEp u.1 b) = j_6 := cEq c_61 (by omega) (by omega)
                      refine lv_iconst (v := nI 1) hx hb dX3_lead_64 (by decide) ?_
                      refine lv_goto (tgt := 69) hx hb dX3_lead_65 (by decide) ?_
                      refine k_ti (show nI 1 = bI true from rfl) ?_
                      refine lv_istore_n (lv' := [(3, .int (bI true)), (0, .ref (gL G 0)), (1, .int (nI j_6)), (2, .int (nI j_14)), (4, .int (nI b))]) hx hb dX3_lead_69 rfl hl (by decide) rfl (fun ls hl => ?_)
                      refine lv_iinc (v := nI (b + 1)) (lv' := [(4, .int (nI (b + 1))), (3, .int (bI true)), (0, .ref (gL G 0)), (1, .int (nI j_6)), (2, .int (nI j_14))]) hx hb dX3_lead_70 hl (k := 4) rfl (nI_add b 1) (by decide) rfl (fun ls hl => ?_)
                      refine lv_goto (tgt := 40) hx hb dX3_lead_73 (by decide) ?_
                      exact ih_40 (mT u.1 - (b + 1)) (by omega) (b + 1) true rfl (by omega) (by omega) (by rw [anyEp_s, ← Bool.or_assoc, ← hmb]; first | (rw [c_50]; rfl) | (rw [c_50, decide_eq_true c_61]; rfl) | (rw [c_50, decide_eq_false c_61]; rfl)) _ _ _ hP hS (lv_sub hl [2, 3, 4, 1, 0] rfl)
            exact loop_40 _ 1 true rfl (Nat.le_refl _) (kT1) (by rw [decide_eq_true (by omega)]; rfl) _ _ _ hP hS (lv_sub hl [2, 3, 4, 1, 0] rfl)
        · exact absurd c_17 (by decide)
      · subst hr_14
        refine lv_if_ne (tgt := 23) hx hb dX3_lead_17 (by decide) (fun c_17 => ?_) (fun c_17 => ?_)
        · exact absurd rfl c_17
        · refine lv_bipush (v := -2) hx hb dX3_lead_20 (by decide) ?_
          exact k_reti X hr hlocks hP hS dX3_lead_22 (rp (w := u) (by simp only [pLead, ixE_some hj_6, ix_none hz_14 (show gn G < 2 ^ 31 by omega)] <;> (first | done | rfl | (split <;> first | rfl | (split <;> first | rfl | (split <;> rfl))))) (hY))
  · subst hr_6
    refine lv_if_eq (tgt := 20) hx hb dX3_lead_9 (by decide) (fun c_9 => ?_) (fun c_9 => ?_)
    · refine lv_bipush (v := -2) hx hb dX3_lead_20 (by decide) ?_
      exact k_reti X hr hlocks hP hS dX3_lead_22 (rp (w := u) (by simp only [pLead, ixE_none hz_6] <;> (first | done | rfl | (split <;> first | rfl | (split <;> first | rfl | (split <;> rfl))))) (hY))
    · exact absurd rfl c_9

set_option maxHeartbeats 4000000 in
set_option maxRecDepth 100000 in
theorem m3_fall (l : Launch) (G : kG) (u : CS) (Y : YS) (hL : layR G) (hI : Inv G u) (hY : InvY (gn G) u.1 Y) (x : Int32) : KMi l G (AR G) (wR G) yX3_fall cX3_fall 3 (Option.some FieldType.int) ({ frames := 2, cells := 0, slots := 0, locals := 46 }) [.ref (gL G 0), .int (x)] (u.1, Y) (fun zz rr => RP (gn G) (pFall (gn G) u x) zz rr) := by
  refine K_of (by decide) (Nat.le_of_ble_eq_true rfl) ?_
  intro p e s m below meth c X hr hlocks hnm hK hP ls hl
  have hx := X.1
  have hb := X.2.1
  have hown := X.2.2.2.1
  have hts := X.2.2.2.2
  have hS : va_S (AR G) s.heap s.heap [] := va_S.rf
  have hl : lv_has ls 3 [(0, .ref (gL G 0)), (1, .int (x))] := hl
  have hk : okR G (u.1, Y) := okR_of hI.1.1 Y
  obtain ⟨⟨kn4, kn10⟩, ⟨kT1, kT61⟩, kP40, kLd, kPar, kEp, kHt, kVf⟩ := id hk
  dsimp only at kT1 kT61 kP40 kLd kPar kEp kHt kVf
  refine lv_aload_n hx hb dX3_fall_0 rfl (lv_at hl 0 rfl) ?_
  refine lv_iconst (v := nI 0) hx hb dX3_fall_1 (by decide) ?_
  refine k_put (v := .int (nI 0)) X hK inX3 rfl tyX3_ok nmX3 hP (wR_D hL _) hS (wR_g G ((u.1, Y)) (k := 0) (by decide)) 0 (by decide) tw_2_135 rfl rfl rfl (Nat.le_of_ble_eq_true rfl) ((u.1, Y)) (rs_th G ((u.1, Y))) dX3_fall_2 (fun H locs hP hS => ?_)
  refine lv_aload_n hx hb dX3_fall_5 rfl (lv_at hl 0 rfl) ?_
  refine lv_iload_n hx hb dX3_fall_6 rfl (lv_at hl 1 rfl) ?_
  refine k_ci (k_runV (As := [.int (x)]) (rest := []) X hK hP (wR_g G ((u.1, Y)) (k := 0) (by decide)) rfl (m3_isNode l G ((u.1, Y)) hL (hk) x) ⟨rfl, rfl⟩ tw_2_229 tw_2_231 tw_0_27 tw_1_6 tw_2_232 ⟨by decide +kernel, by decide +kernel, (by decide +kernel : (parseMethodDescriptor yX3_isNode.desc).map (fun d => d.parameters.length) = some 1)⟩ ⟨Nat.le_of_ble_eq_true rfl, Nat.le_of_ble_eq_true rfl⟩ hl.1 rfl (Nat.le_of_ble_eq_true rfl) ⟨Nat.zero_le _, Nat.zero_le _⟩ dX3_fall_7) hS (fun r_7 u_7 H locs hq_7 hP hS => ?_)
  have hP := k_su hq_7.1 hP
  rcases hq_7.2 with ⟨j_7, hj_7, hx_7, hr_7⟩ | ⟨hz_7, hr_7⟩
  · subst hx_7
    subst hr_7
    replace hj_7 : j_7 < gn G := hj_7
    refine lv_if_ne (tgt := 16) hx hb dX3_fall_10 (by decide) (fun c_10 => ?_) (fun c_10 => ?_)
    · refine lv_aload_n hx hb dX3_fall_16 rfl (lv_at hl 0 rfl) ?_
      refine k_get (v := .ref (gL G 1)) X hK inX3 rfl hP (wR_g G ((u.1, Y)) (k := 0) (by decide)) 2 (by decide) tw_2_137 rfl dX3_fall_17 ?_
      refine lv_iload_n hx hb dX3_fall_20 rfl (lv_at hl 1 rfl) ?_
      refine k_zld (k := j_7) (v := bI (mFa u.1 j_7)) X hK hP (wR_g G ((u.1, Y)) (k := 1) (by decide)) (by omega) (by decide) rfl dX3_fall_21 ?_
      refine lv_if_eq (tgt := 29) hx hb dX3_fall_22 (by decide) (fun c_22 => ?_) (fun c_22 => ?_)
      · have c_22 : (mFa u.1 j_7) = false := (bI_eq0 _).mp c_22
        refine lv_iconst (v := nI 1) hx hb dX3_fall_29 (by decide) ?_
        refine lv_istore_n (lv' := [(2, .int (nI 1)), (0, .ref (gL G 0)), (1, .int (nI j_7))]) hx hb dX3_fall_30 rfl hl (by decide) rfl (fun ls hl => ?_)
        refine lv_aload_n hx hb dX3_fall_31 rfl (lv_at hl 1 rfl) ?_
        refine k_get (v := .ref (gL G 1)) X hK inX3 rfl hP (wR_g G ((u.1, Y)) (k := 0) (by decide)) 2 (by decide) tw_2_137 rfl dX3_fall_32 ?_
        refine lv_iload_n hx hb dX3_fall_35 rfl (lv_at hl 2 rfl) ?_
        refine lv_iconst (v := nI 1) hx hb dX3_fall_36 (by decide) ?_
        refine k_ti (show nI 1 = bI true from rfl) ?_
        refine k_zst (k := j_7) (x := bI true) X hK hP (wR_D hL _) hS (wR_g G ((u.1, Y)) (k := 1) (by decide)) (by omega) (by decide) (bI_vnar _) ((sFa u.1 (va_up (mFa u.1) j_7 true), Y)) (rs_Fa G ((u.1, Y)) j_7 true) dX3_fall_37 (fun H locs hP hS => ?_)
        refine lv_iload_n hx hb dX3_fall_38 rfl (lv_at hl 0 rfl) ?_
        exact k_reti X hr hlocks hP hS dX3_fall_39 (rp (w := (sFa u.1 (va_up (mFa u.1) j_7 true), u.2)) (by simp only [pFall, ix_some hj_7 (show gn G < 2 ^ 31 by omega), if_neg (show ¬ mFa u.1 j_7 = true by rw [c_22]; decide)] <;> (first | done | rfl | (split <;> first | rfl | (split <;> first | rfl | (split <;> rfl))))) (hY))
      · have c_22 : (mFa u.1 j_7) = true := (bI_ne0 _).mp c_22
        refine lv_iconst (v := nI 0) hx hb dX3_fall_25 (by decide) ?_
        refine lv_goto (tgt := 30) hx hb dX3_fall_26 (by decide) ?_
        refine lv_istore_n (lv' := [(2, .int (nI 0)), (0, .ref (gL G 0)), (1, .int (nI j_7))]) hx hb dX3_fall_30 rfl hl (by decide) rfl (fun ls hl => ?_)
        refine lv_aload_n hx hb dX3_fall_31 rfl (lv_at hl 1 rfl) ?_
        refine k_get (v := .ref (gL G 1)) X hK inX3 rfl hP (wR_g G ((u.1, Y)) (k := 0) (by decide)) 2 (by decide) tw_2_137 rfl dX3_fall_32 ?_
        refine lv_iload_n hx hb dX3_fall_35 rfl (lv_at hl 2 rfl) ?_
        refine lv_iconst (v := nI 1) hx hb dX3_fall_36 (by decide) ?_
        refine k_ti (show nI 1 = bI true from rfl) ?_
        refine k_zst (k := j_7) (x := bI true) X hK hP (wR_D hL _) hS (wR_g G ((u.1, Y)) (k := 1) (by decide)) (by omega) (by decide) (bI_vnar _) ((sFa u.1 (va_up (mFa u.1) j_7 true), Y)) (rs_Fa G ((u.1, Y)) j_7 true) dX3_fall_37 (fun H locs hP hS => ?_)
        have hP := k_su (show _ = (u.1, Y) by rw [va_up_id c_22]) hP
        refine lv_iload_n hx hb dX3_fall_38 rfl (lv_at hl 0 rfl) ?_
        exact k_reti X hr hlocks hP hS dX3_fall_39 (rp (w := u) (by simp only [pFall, ix_some hj_7 (show gn G < 2 ^ 31 by omega), if_pos c_22] <;> (first | done | rfl | (split <;> first | rfl | (split <;> first | rfl | (split <;> rfl))))) (hY))
    · exact absurd c_10 (by decide)
  · subst hr_7
    refine lv_if_ne (tgt := 16) hx hb dX3_fall_10 (by decide) (fun c_10 => ?_) (fun c_10 => ?_)
    · exact absurd rfl c_10
    · refine lv_bipush (v := -2) hx hb dX3_fall_13 (by decide) ?_
      exact k_reti X hr hlocks hP hS dX3_fall_15 (rp (w := u) (by simp only [pFall, ix_none hz_7 (show gn G < 2 ^ 31 by omega)] <;> (first | done | rfl | (split <;> first | rfl | (split <;> first | rfl | (split <;> rfl))))) (hY))

set_option maxHeartbeats 4000000 in
set_option maxRecDepth 100000 in
theorem m3_wish (l : Launch) (G : kG) (u : CS) (Y : YS) (hL : layR G) (hI : Inv G u) (hY : InvY (gn G) u.1 Y) (x y : Int32) : KMi l G (AR G) (wR G) yX3_wish cX3_wish 4 (Option.some FieldType.int) ({ frames := 2, cells := 0, slots := 0, locals := 46 }) [.ref (gL G 0), .int (x), .int (y)] (u.1, Y) (fun zz rr => RP (gn G) (pWish (gn G) u x y) zz rr) := by
  refine K_of (by decide) (Nat.le_of_ble_eq_true rfl) ?_
  intro p e s m below meth c X hr hlocks hnm hK hP ls hl
  have hx := X.1
  have hb := X.2.1
  have hown := X.2.2.2.1
  have hts := X.2.2.2.2
  have hS : va_S (AR G) s.heap s.heap [] := va_S.rf
  have hl : lv_has ls 4 [(0, .ref (gL G 0)), (1, .int (x)), (2, .int (y))] := hl
  have hk : okR G (u.1, Y) := okR_of hI.1.1 Y
  obtain ⟨⟨kn4, kn10⟩, ⟨kT1, kT61⟩, kP40, kLd, kPar, kEp, kHt, kVf⟩ := id hk
  dsimp only at kT1 kT61 kP40 kLd kPar kEp kHt kVf
  refine lv_aload_n hx hb dX3_wish_0 rfl (lv_at hl 0 rfl) ?_
  refine lv_iconst (v := nI 0) hx hb dX3_wish_1 (by decide) ?_
  refine k_put (v := .int (nI 0)) X hK inX3 rfl tyX3_ok nmX3 hP (wR_D hL _) hS (wR_g G ((u.1, Y)) (k := 0) (by decide)) 0 (by decide) tw_2_135 rfl rfl rfl (Nat.le_of_ble_eq_true rfl) ((u.1, Y)) (rs_th G ((u.1, Y))) dX3_wish_2 (fun H locs hP hS => ?_)
  refine lv_aload_n hx hb dX3_wish_5 rfl (lv_at hl 0 rfl) ?_
  refine lv_iload_n hx hb dX3_wish_6 rfl (lv_at hl 1 rfl) ?_
  refine k_ci (k_runV (As := [.int (x)]) (rest := []) X hK hP (wR_g G ((u.1, Y)) (k := 0) (by decide)) rfl (m3_isNode l G ((u.1, Y)) hL (hk) x) ⟨rfl, rfl⟩ tw_2_229 tw_2_231 tw_0_27 tw_1_6 tw_2_232 ⟨by decide +kernel, by decide +kernel, (by decide +kernel : (parseMethodDescriptor yX3_isNode.desc).map (fun d => d.parameters.length) = some 1)⟩ ⟨Nat.le_of_ble_eq_true rfl, Nat.le_of_ble_eq_true rfl⟩ hl.1 rfl (Nat.le_of_ble_eq_true rfl) ⟨Nat.zero_le _, Nat.zero_le _⟩ dX3_wish_7) hS (fun r_7 u_7 H locs hq_7 hP hS => ?_)
  have hP := k_su hq_7.1 hP
  rcases hq_7.2 with ⟨j_7, hj_7, hx_7, hr_7⟩ | ⟨hz_7, hr_7⟩
  · subst hx_7
    subst hr_7
    replace hj_7 : j_7 < gn G := hj_7
    refine lv_if_eq (tgt := 25) hx hb dX3_wish_10 (by decide) (fun c_10 => ?_) (fun c_10 => ?_)
    · exact absurd c_10 (by decide)
    · refine lv_iload_n hx hb dX3_wish_13 rfl (lv_at hl 2 rfl) ?_
      refine lv_i2l (v := y.toInt64) hx hb dX3_wish_14 rfl ?_
      refine lv_lconst (v := 0) hx hb dX3_wish_15 rfl ?_
      refine lv_ldc2 (v := 31) hx hb hown (hts _ tw_3_1) dX3_wish_16 ?_
      refine k_ci (k_runS (As := [.long (y.toInt64), .long (0), .long (31)]) (rest := []) X hK hP (m3_in l G (AR G) (wR G) ((u.1, Y)) y.toInt64 0 31) ⟨rfl, rfl⟩ tw_2_226 tw_2_227 tw_1_6 tw_2_228 ⟨by decide +kernel, by decide +kernel, (by decide +kernel : (parseMethodDescriptor yX3_in.desc).map (fun d => d.parameters.length) = some 3)⟩ ⟨Nat.le_of_ble_eq_true rfl, Nat.le_of_ble_eq_true rfl⟩ hl.1 rfl (Nat.le_of_ble_eq_true rfl) ⟨Nat.zero_le _, Nat.zero_le _⟩ dX3_wish_19) hS (fun r_19 u_19 H locs hq_19 hP hS => ?_)
      have hP := k_su hq_19.2 hP
      have hq2_19 : r_19 = bI (decide (lN 0 ≤ y.toInt64) && decide (y.toInt64 ≤ lN 31)) := by
        rw [hq_19.1, show 31 = lN 31 from rfl]; rfl
      rcases in_cases y (a := 0) (k := 31) (by decide) (by omega) with ⟨j_19, hj_19, hx_19, hr_19⟩ | ⟨hz_19, hr_19⟩
      · rw [hr_19] at hq2_19
        subst hx_19
        refine k_ti (y := 1) hq2_19 ?_
        refine lv_if_ne (tgt := 28) hx hb dX3_wish_22 (by decide) (fun c_22 => ?_) (fun c_22 => ?_)
        · refine lv_aload_n hx hb dX3_wish_28 rfl (lv_at hl 0 rfl) ?_
          refine k_get (v := .ref (gL G 2)) X hK inX3 rfl hP (wR_g G ((u.1, Y)) (k := 0) (by decide)) 3 (by decide) tw_2_138 rfl dX3_wish_29 ?_
          refine lv_iload_n hx hb dX3_wish_32 rfl (lv_at hl 1 rfl) ?_
          refine k_ild (k := j_7) (v := mWi u.1 j_7) X hK hP (wR_g G ((u.1, Y)) (k := 2) (by decide)) (by omega) (by decide) rfl dX3_wish_33 ?_
          refine lv_iload_n hx hb dX3_wish_34 rfl (lv_at hl 2 rfl) ?_
          refine lv_iushr (v := ((mWi u.1 j_7).toUInt32 >>> ((nI j_19).toUInt32 &&& Int32.toUInt32 31)).toInt32) hx hb dX3_wish_35 rfl ?_
          refine lv_iconst (v := nI 1) hx hb dX3_wish_36 (by decide) ?_
          refine lv_iand hx hb dX3_wish_37 ?_
          refine k_ti (ushr_bit (mWi u.1 j_7) (by omega)) ?_
          refine lv_iconst (v := nI 1) hx hb dX3_wish_38 (by decide) ?_
          refine lv_icmp_ne (tgt := 46) hx hb dX3_wish_39 (by decide) (fun c_39 => ?_) (fun c_39 => ?_)
          · have c_39 : tI (mWi u.1 j_7) j_19 = false := by
              cases h : tI (mWi u.1 j_7) j_19
              · rfl
              · exact absurd (by rw [h]; rfl) c_39
            refine lv_iconst (v := nI 1) hx hb dX3_wish_46 (by decide) ?_
            refine lv_istore_n (lv' := [(3, .int (nI 1)), (0, .ref (gL G 0)), (1, .int (nI j_7)), (2, .int (nI j_19))]) hx hb dX3_wish_47 rfl hl (by decide) rfl (fun ls hl => ?_)
            refine lv_aload_n hx hb dX3_wish_48 rfl (lv_at hl 1 rfl) ?_
            refine k_get (v := .ref (gL G 2)) X hK inX3 rfl hP (wR_g G ((u.1, Y)) (k := 0) (by decide)) 3 (by decide) tw_2_138 rfl dX3_wish_49 ?_
            refine lv_iload_n hx hb dX3_wish_52 rfl (lv_at hl 2 rfl) ?_
            refine lv_dup2_11 hx hb dX3_wish_53 rfl rfl ?_
            refine k_ild (k := j_7) (v := mWi u.1 j_7) X hK hP (wR_g G ((u.1, Y)) (k := 2) (by decide)) (by omega) (by decide) rfl dX3_wish_54 ?_
            refine lv_iconst (v := nI 1) hx hb dX3_wish_55 (by decide) ?_
            refine lv_iload_n hx hb dX3_wish_56 rfl (lv_at hl 3 rfl) ?_
            refine lv_ishl hx hb dX3_wish_57 ?_
            refine k_ti (show nI 1 <<< (nI j_19 &&& 31) = (1 : Int32) <<< (nI j_19 &&& 31) from rfl) ?_
            refine lv_ior hx hb dX3_wish_58 ?_
            refine k_ti (show _ = wsh (mWi u.1 j_7) j_19 from rfl) ?_
            refine k_ist (k := j_7) (x := wsh (mWi u.1 j_7) j_19) X hK hP (wR_D hL _) hS (wR_g G ((u.1, Y)) (k := 2) (by decide)) (by omega) (by decide) ((sWi u.1 (va_up (mWi u.1) j_7 (wsh (mWi u.1 j_7) j_19)), Y)) (rs_Wi G ((u.1, Y)) j_7 (wsh (mWi u.1 j_7) j_19)) dX3_wish_59 (fun H locs hP hS => ?_)
            refine lv_iload_n hx hb dX3_wish_60 rfl (lv_at hl 0 rfl) ?_
            exact k_reti X hr hlocks hP hS dX3_wish_61 (rp (w := (sWi u.1 (va_up (mWi u.1) j_7 (wsh (mWi u.1 j_7) j_19)), u.2)) (by simp only [pWish, ix_some hj_7 (show gn G < 2 ^ 31 by omega), ix_some (show j_19 < 32 by omega) (show 32 < 2 ^ 31 by decide)]; rw [c_39]; rfl) (hY))
          · have c_39 : tI (mWi u.1 j_7) j_19 = true := by
              cases h : tI (mWi u.1 j_7) j_19
              · rw [h] at c_39; exact absurd c_39 (by decide)
              · rfl
            refine lv_iconst (v := nI 0) hx hb dX3_wish_42 (by decide) ?_
            refine lv_goto (tgt := 47) hx hb dX3_wish_43 (by decide) ?_
            refine lv_istore_n (lv' := [(3, .int (nI 0)), (0, .ref (gL G 0)), (1, .int (nI j_7)), (2, .int (nI j_19))]) hx hb dX3_wish_47 rfl hl (by decide) rfl (fun ls hl => ?_)
            refine lv_aload_n hx hb dX3_wish_48 rfl (lv_at hl 1 rfl) ?_
            refine k_get (v := .ref (gL G 2)) X hK inX3 rfl hP (wR_g G ((u.1, Y)) (k := 0) (by decide)) 3 (by decide) tw_2_138 rfl dX3_wish_49 ?_
            refine lv_iload_n hx hb dX3_wish_52 rfl (lv_at hl 2 rfl) ?_
            refine lv_dup2_11 hx hb dX3_wish_53 rfl rfl ?_
            refine k_ild (k := j_7) (v := mWi u.1 j_7) X hK hP (wR_g G ((u.1, Y)) (k := 2) (by decide)) (by omega) (by decide) rfl dX3_wish_54 ?_
            refine lv_iconst (v := nI 1) hx hb dX3_wish_55 (by decide) ?_
            refine lv_iload_n hx hb dX3_wish_56 rfl (lv_at hl 3 rfl) ?_
            refine lv_ishl hx hb dX3_wish_57 ?_
            refine k_ti (show nI 1 <<< (nI j_19 &&& 31) = (1 : Int32) <<< (nI j_19 &&& 31) from rfl) ?_
            refine lv_ior hx hb dX3_wish_58 ?_
            refine k_ti (show _ = wsh (mWi u.1 j_7) j_19 from rfl) ?_
            refine k_ist (k := j_7) (x := wsh (mWi u.1 j_7) j_19) X hK hP (wR_D hL _) hS (wR_g G ((u.1, Y)) (k := 2) (by decide)) (by omega) (by decide) ((sWi u.1 (va_up (mWi u.1) j_7 (wsh (mWi u.1 j_7) j_19)), Y)) (rs_Wi G ((u.1, Y)) j_7 (wsh (mWi u.1 j_7) j_19)) dX3_wish_59 (fun H locs hP hS => ?_)
            refine lv_iload_n hx hb dX3_wish_60 rfl (lv_at hl 0 rfl) ?_
            exact k_reti X hr hlocks hP hS dX3_wish_61 (rp (w := (sWi u.1 (va_up (mWi u.1) j_7 (wsh (mWi u.1 j_7) j_19)), u.2)) (by simp only [pWish, ix_some hj_7 (show gn G < 2 ^ 31 by omega), ix_some (show j_19 < 32 by omega) (show 32 < 2 ^ 31 by decide)]; rw [c_39]; rfl) (hY))
        · exact absurd c_22 (by decide)
      · rw [hr_19] at hq2_19
        refine k_ti (y := 0) hq2_19 ?_
        refine lv_if_ne (tgt := 28) hx hb dX3_wish_22 (by decide) (fun c_22 => ?_) (fun c_22 => ?_)
        · exact absurd rfl c_22
        · refine lv_bipush (v := -2) hx hb dX3_wish_25 (by decide) ?_
          exact k_reti X hr hlocks hP hS dX3_wish_27 (rp (w := u) (by simp only [pWish, ix_some hj_7 (show gn G < 2 ^ 31 by omega), ix_none (fun j hj => hz_19 j ⟨Nat.zero_le _, by omega⟩) (show 32 < 2 ^ 31 by decide)] <;> (first | done | rfl | (split <;> first | rfl | (split <;> first | rfl | (split <;> rfl))))) (hY))
  · subst hr_7
    refine lv_if_eq (tgt := 25) hx hb dX3_wish_10 (by decide) (fun c_10 => ?_) (fun c_10 => ?_)
    · refine lv_bipush (v := -2) hx hb dX3_wish_25 (by decide) ?_
      exact k_reti X hr hlocks hP hS dX3_wish_27 (rp (w := u) (by simp only [pWish, ix_none hz_7 (show gn G < 2 ^ 31 by omega)] <;> (first | done | rfl | (split <;> first | rfl | (split <;> first | rfl | (split <;> rfl))))) (hY))
    · exact absurd rfl c_10

set_option maxHeartbeats 4000000 in
set_option maxRecDepth 100000 in
theorem m3_bring (l : Launch) (G : kG) (u : CS) (Y : YS) (hL : layR G) (hI : Inv G u) (hY : InvY (gn G) u.1 Y) (x y : Int32) : KMi l G (AR G) (wR G) yX3_bring cX3_bring 3 (Option.some FieldType.int) ({ frames := 5, cells := 0, slots := 0, locals := 115 }) [.ref (gL G 0), .int (x), .int (y)] (u.1, Y) (fun zz rr => RP (gn G) (pBring (gn G) u x y) zz rr) := by
  refine K_of (by decide) (Nat.le_of_ble_eq_true rfl) ?_
  intro p e s m below meth c X hr hlocks hnm hK hP ls hl
  have hx := X.1
  have hb := X.2.1
  have hown := X.2.2.2.1
  have hts := X.2.2.2.2
  have hS : va_S (AR G) s.heap s.heap [] := va_S.rf
  have hl : lv_has ls 3 [(0, .ref (gL G 0)), (1, .int (x)), (2, .int (y))] := hl
  have hk : okR G (u.1, Y) := okR_of hI.1.1 Y
  obtain ⟨⟨kn4, kn10⟩, ⟨kT1, kT61⟩, kP40, kLd, kPar, kEp, kHt, kVf⟩ := id hk
  dsimp only at kT1 kT61 kP40 kLd kPar kEp kHt kVf
  refine lv_aload_n hx hb dX3_bring_0 rfl (lv_at hl 0 rfl) ?_
  refine lv_iconst (v := nI 0) hx hb dX3_bring_1 (by decide) ?_
  refine k_put (v := .int (nI 0)) X hK inX3 rfl tyX3_ok nmX3 hP (wR_D hL _) hS (wR_g G ((u.1, Y)) (k := 0) (by decide)) 0 (by decide) tw_2_135 rfl rfl rfl (Nat.le_of_ble_eq_true rfl) ((u.1, Y)) (rs_th G ((u.1, Y))) dX3_bring_2 (fun H locs hP hS => ?_)
  refine lv_aload_n hx hb dX3_bring_5 rfl (lv_at hl 0 rfl) ?_
  refine lv_iload_n hx hb dX3_bring_6 rfl (lv_at hl 1 rfl) ?_
  refine k_ci (k_runV (As := [.int (x)]) (rest := []) X hK hP (wR_g G ((u.1, Y)) (k := 0) (by decide)) rfl (m3_isBlock l G ((u.1, Y)) hL (hk) x) ⟨rfl, rfl⟩ tw_3_33 tw_3_35 tw_0_33 tw_1_6 tw_3_36 ⟨by decide +kernel, by decide +kernel, (by decide +kernel : (parseMethodDescriptor yX3_isBlock.desc).map (fun d => d.parameters.length) = some 1)⟩ ⟨Nat.le_of_ble_eq_true rfl, Nat.le_of_ble_eq_true rfl⟩ hl.1 rfl (Nat.le_of_ble_eq_true rfl) ⟨Nat.zero_le _, Nat.zero_le _⟩ dX3_bring_7) hS (fun r_7 u_7 H locs hq_7 hP hS => ?_)
  have hP := k_su hq_7.1 hP
  rcases hq_7.2 with ⟨j_7, hj_7, hx_7, hr_7⟩ | ⟨hz_7, hr_7⟩
  · subst hx_7
    subst hr_7
    replace hj_7 : j_7 < mT u.1 := hj_7
    refine lv_if_eq (tgt := 21) hx hb dX3_bring_10 (by decide) (fun c_10 => ?_) (fun c_10 => ?_)
    · exact absurd c_10 (by decide)
    · refine lv_aload_n hx hb dX3_bring_13 rfl (lv_at hl 0 rfl) ?_
      refine lv_iload_n hx hb dX3_bring_14 rfl (lv_at hl 2 rfl) ?_
      refine k_ci (k_runV (As := [.int (y)]) (rest := []) X hK hP (wR_g G ((u.1, Y)) (k := 0) (by decide)) rfl (m3_isNode l G ((u.1, Y)) hL (hk) y) ⟨rfl, rfl⟩ tw_2_229 tw_2_231 tw_0_27 tw_1_6 tw_2_232 ⟨by decide +kernel, by decide +kernel, (by decide +kernel : (parseMethodDescriptor yX3_isNode.desc).map (fun d => d.parameters.length) = some 1)⟩ ⟨Nat.le_of_ble_eq_true rfl, Nat.le_of_ble_eq_true rfl⟩ hl.1 rfl (Nat.le_of_ble_eq_true rfl) ⟨Nat.zero_le _, Nat.zero_le _⟩ dX3_bring_15) hS (fun r_15 u_15 H locs hq_15 hP hS => ?_)
      have hP := k_su hq_15.1 hP
      rcases hq_15.2 with ⟨j_15, hj_15, hx_15, hr_15⟩ | ⟨hz_15, hr_15⟩
      · subst hx_15
        subst hr_15
        replace hj_15 : j_15 < gn G := hj_15
        refine lv_if_ne (tgt := 24) hx hb dX3_bring_18 (by decide) (fun c_18 => ?_) (fun c_18 => ?_)
        · refine lv_aload_n hx hb dX3_bring_24 rfl (lv_at hl 0 rfl) ?_
          refine k_get (v := .ref (gL G 10)) X hK inX3 rfl hP (wR_g G ((u.1, Y)) (k := 0) (by decide)) 13 (by decide) tw_2_148 rfl dX3_bring_25 ?_
          refine lv_bipush (v := nI 10) hx hb dX3_bring_28 (by decide) ?_
          refine lv_iload_n hx hb dX3_bring_30 rfl (lv_at hl 1 rfl) ?_
          refine lv_iconst (v := -1) hx hb dX3_bring_31 (by decide) ?_
          refine k_ci (k_runS (As := [.int (nI j_7), .int (-1)]) (rest := [.int (nI 10), .ref (gL G 10)]) X hK hP (m3_letterN l G (AR G) (wR G) ((u.1, Y)) j_7) ⟨rfl, rfl⟩ tw_3_10 tw_3_11 tw_1_6 tw_3_12 ⟨by decide +kernel, by decide +kernel, (by decide +kernel : (parseMethodDescriptor yX3_letter.desc).map (fun d => d.parameters.length) = some 2)⟩ ⟨Nat.le_of_ble_eq_true rfl, Nat.le_of_ble_eq_true rfl⟩ hl.1 rfl (Nat.le_of_ble_eq_true rfl) ⟨Nat.zero_le _, Nat.zero_le _⟩ dX3_bring_32) hS (fun r_32 u_32 H locs hq_32 hP hS => ?_)
          have hP := k_su hq_32.2 hP
          refine k_ti hq_32.1 ?_
          refine lv_imul hx hb dX3_bring_35 ?_
          refine k_ti (pk_mul 10 (11 * j_7)) ?_
          refine lv_iload_n hx hb dX3_bring_36 rfl (lv_at hl 2 rfl) ?_
          refine lv_iadd hx hb dX3_bring_37 ?_
          refine k_ti (nI_add (10 * (11 * j_7)) j_15) ?_
          refine k_zld (k := 10 * (11 * j_7) + j_15) (v := bI (mWy u.1 (11 * j_7) j_15)) X hK hP (wR_g G ((u.1, Y)) (k := 10) (by decide)) (by omega) (by decide) (f10_at _ (show j_15 < 10 by omega)) dX3_bring_38 ?_
          refine lv_if_ne (tgt := 45) hx hb dX3_bring_39 (by decide) (fun c_39 => ?_) (fun c_39 => ?_)
          · have c_39 : (mWy u.1 (11 * j_7) j_15) = true := (bI_ne0 _).mp c_39
            refine lv_aload_n hx hb dX3_bring_45 rfl (lv_at hl 0 rfl) ?_
            refine lv_iload_n hx hb dX3_bring_46 rfl (lv_at hl 2 rfl) ?_
            refine lv_iload_n hx hb dX3_bring_47 rfl (lv_at hl 1 rfl) ?_
            refine lv_iconst (v := -1) hx hb dX3_bring_48 (by decide) ?_
            refine k_ci (k_runS (As := [.int (nI j_7), .int (-1)]) (rest := [.int (nI j_15), .ref (gL G 0)]) X hK hP (m3_letterN l G (AR G) (wR G) ((u.1, Y)) j_7) ⟨rfl, rfl⟩ tw_3_10 tw_3_11 tw_1_6 tw_3_12 ⟨by decide +kernel, by decide +kernel, (by decide +kernel : (parseMethodDescriptor yX3_letter.desc).map (fun d => d.parameters.length) = some 2)⟩ ⟨Nat.le_of_ble_eq_true rfl, Nat.le_of_ble_eq_true rfl⟩ hl.1 rfl (Nat.le_of_ble_eq_true rfl) ⟨Nat.zero_le _, Nat.zero_le _⟩ dX3_bring_49) hS (fun r_49 u_49 H locs hq_49 hP hS => ?_)
            have hP := k_su hq_49.2 hP
            refine k_ti hq_49.1 ?_
            refine k_cv (k_runV (As := [.int (nI j_15), .int (nI (11 * j_7))]) (rest := []) X hK hP (wR_g G ((u.1, Y)) (k := 0) (by decide)) rfl (m3_comes l G u Y hL hI.1 hY (v := j_15) (l0 := (11 * j_7)) (by omega) c_39) ⟨rfl, rfl⟩ tw_3_37 tw_3_39 tw_0_34 tw_1_6 tw_3_40 ⟨by decide +kernel, by decide +kernel, (by decide +kernel : (parseMethodDescriptor yX3_comes.desc).map (fun d => d.parameters.length) = some 2)⟩ ⟨Nat.le_of_ble_eq_true rfl, Nat.le_of_ble_eq_true rfl⟩ hl.1 rfl (Nat.le_of_ble_eq_true rfl) ⟨Nat.zero_le _, Nat.zero_le _⟩ dX3_bring_52) hS (fun u_52 H locs hq_52 hP hS => ?_)
            obtain ⟨M_52, Y_52⟩ := u_52
            obtain ⟨hM_52, hY_52, hT_52⟩ := hq_52
            dsimp only at hM_52 hY_52 hT_52
            subst hM_52
            have hP := k_su (show _ = ((cLetP (gn G) u j_15 j_7).1, Y_52) by rw [step_P c_39]) hP
            rw [step_P c_39] at hY_52
            refine lv_iconst (v := nI 1) hx hb dX3_bring_55 (by decide) ?_
            exact k_reti X hr hlocks hP hS dX3_bring_56 (rp (w := cLetP (gn G) u j_15 j_7) (by simp only [pBring, ix_some hj_7 (show mT u.1 < 2 ^ 31 by omega), ix_some hj_15 (show gn G < 2 ^ 31 by omega)]; rw [if_pos c_39]; rfl) (hY_52))
          · have c_39 : (mWy u.1 (11 * j_7) j_15) = false := (bI_eq0 _).mp c_39
            refine lv_bipush (v := -3) hx hb dX3_bring_42 (by decide) ?_
            exact k_reti X hr hlocks hP hS dX3_bring_44 (rp (w := u) (by simp only [pBring, ix_some hj_7 (show mT u.1 < 2 ^ 31 by omega), ix_some hj_15 (show gn G < 2 ^ 31 by omega)]; rw [if_neg (by rw [c_39]; decide)]) (hY))
        · exact absurd c_18 (by decide)
      · subst hr_15
        refine lv_if_ne (tgt := 24) hx hb dX3_bring_18 (by decide) (fun c_18 => ?_) (fun c_18 => ?_)
        · exact absurd rfl c_18
        · refine lv_bipush (v := -2) hx hb dX3_bring_21 (by decide) ?_
          exact k_reti X hr hlocks hP hS dX3_bring_23 (rp (w := u) (by simp only [pBring, ix_some hj_7 (show mT u.1 < 2 ^ 31 by omega), ix_none hz_15 (show gn G < 2 ^ 31 by omega)] <;> (first | done | rfl | (split <;> first | rfl | (split <;> first | rfl | (split <;> rfl))))) (hY))
  · subst hr_7
    refine lv_if_eq (tgt := 21) hx hb dX3_bring_10 (by decide) (fun c_10 => ?_) (fun c_10 => ?_)
    · refine lv_bipush (v := -2) hx hb dX3_bring_21 (by decide) ?_
      exact k_reti X hr hlocks hP hS dX3_bring_23 (rp (w := u) (by simp only [pBring, ix_none hz_7 (show mT u.1 < 2 ^ 31 by omega)] <;> (first | done | rfl | (split <;> first | rfl | (split <;> first | rfl | (split <;> rfl))))) (hY))
    · exact absurd rfl c_10

set_option maxHeartbeats 4000000 in
set_option maxRecDepth 100000 in
theorem m3_bringVote (l : Launch) (G : kG) (u : CS) (Y : YS) (hL : layR G) (hI : Inv G u) (hY : InvY (gn G) u.1 Y) (x y z : Int32) : KMi l G (AR G) (wR G) yX3_bringVote cX3_bringVote 4 (Option.some FieldType.int) ({ frames := 5, cells := 0, slots := 0, locals := 115 }) [.ref (gL G 0), .int (x), .int (y), .int (z)] (u.1, Y) (fun zz rr => RP (gn G) (pBringVote (gn G) u x y z) zz rr) := by
  refine K_of (by decide) (Nat.le_of_ble_eq_true rfl) ?_
  intro p e s m below meth c X hr hlocks hnm hK hP ls hl
  have hx := X.1
  have hb := X.2.1
  have hown := X.2.2.2.1
  have hts := X.2.2.2.2
  have hS : va_S (AR G) s.heap s.heap [] := va_S.rf
  have hl : lv_has ls 4 [(0, .ref (gL G 0)), (1, .int (x)), (2, .int (y)), (3, .int (z))] := hl
  have hk : okR G (u.1, Y) := okR_of hI.1.1 Y
  obtain ⟨⟨kn4, kn10⟩, ⟨kT1, kT61⟩, kP40, kLd, kPar, kEp, kHt, kVf⟩ := id hk
  dsimp only at kT1 kT61 kP40 kLd kPar kEp kHt kVf
  refine lv_aload_n hx hb dX3_bringVote_0 rfl (lv_at hl 0 rfl) ?_
  refine lv_iconst (v := nI 0) hx hb dX3_bringVote_1 (by decide) ?_
  refine k_put (v := .int (nI 0)) X hK inX3 rfl tyX3_ok nmX3 hP (wR_D hL _) hS (wR_g G ((u.1, Y)) (k := 0) (by decide)) 0 (by decide) tw_2_135 rfl rfl rfl (Nat.le_of_ble_eq_true rfl) ((u.1, Y)) (rs_th G ((u.1, Y))) dX3_bringVote_2 (fun H locs hP hS => ?_)
  refine lv_aload_n hx hb dX3_bringVote_5 rfl (lv_at hl 0 rfl) ?_
  refine lv_iload_n hx hb dX3_bringVote_6 rfl (lv_at hl 1 rfl) ?_
  refine k_ci (k_runV (As := [.int (x)]) (rest := []) X hK hP (wR_g G ((u.1, Y)) (k := 0) (by decide)) rfl (m3_isNode l G ((u.1, Y)) hL (hk) x) ⟨rfl, rfl⟩ tw_2_229 tw_2_231 tw_0_27 tw_1_6 tw_2_232 ⟨by decide +kernel, by decide +kernel, (by decide +kernel : (parseMethodDescriptor yX3_isNode.desc).map (fun d => d.parameters.length) = some 1)⟩ ⟨Nat.le_of_ble_eq_true rfl, Nat.le_of_ble_eq_true rfl⟩ hl.1 rfl (Nat.le_of_ble_eq_true rfl) ⟨Nat.zero_le _, Nat.zero_le _⟩ dX3_bringVote_7) hS (fun r_7 u_7 H locs hq_7 hP hS => ?_)
  have hP := k_su hq_7.1 hP
  rcases hq_7.2 with ⟨j_7, hj_7, hx_7, hr_7⟩ | ⟨hz_7, hr_7⟩
  · subst hx_7
    subst hr_7
    replace hj_7 : j_7 < gn G := hj_7
    refine lv_if_eq (tgt := 29) hx hb dX3_bringVote_10 (by decide) (fun c_10 => ?_) (fun c_10 => ?_)
    · exact absurd c_10 (by decide)
    · refine lv_aload_n hx hb dX3_bringVote_13 rfl (lv_at hl 0 rfl) ?_
      refine lv_iload_n hx hb dX3_bringVote_14 rfl (lv_at hl 2 rfl) ?_
      refine k_ci (k_runV (As := [.int (y)]) (rest := []) X hK hP (wR_g G ((u.1, Y)) (k := 0) (by decide)) rfl (m3_isBlock l G ((u.1, Y)) hL (hk) y) ⟨rfl, rfl⟩ tw_3_33 tw_3_35 tw_0_33 tw_1_6 tw_3_36 ⟨by decide +kernel, by decide +kernel, (by decide +kernel : (parseMethodDescriptor yX3_isBlock.desc).map (fun d => d.parameters.length) = some 1)⟩ ⟨Nat.le_of_ble_eq_true rfl, Nat.le_of_ble_eq_true rfl⟩ hl.1 rfl (Nat.le_of_ble_eq_true rfl) ⟨Nat.zero_le _, Nat.zero_le _⟩ dX3_bringVote_15) hS (fun r_15 u_15 H locs hq_15 hP hS => ?_)
      have hP := k_su hq_15.1 hP
      rcases hq_15.2 with ⟨j_15, hj_15, hx_15, hr_15⟩ | ⟨hz_15, hr_15⟩
      · subst hx_15
        subst hr_15
        replace hj_15 : j_15 < mT u.1 := hj_15
        refine lv_if_eq (tgt := 29) hx hb dX3_bringVote_18 (by decide) (fun c_18 => ?_) (fun c_18 => ?_)
        · exact absurd c_18 (by decide)
        · refine lv_aload_n hx hb dX3_bringVote_21 rfl (lv_at hl 0 rfl) ?_
          refine lv_iload_n hx hb dX3_bringVote_22 rfl (lv_at hl 3 rfl) ?_
          refine k_ci (k_runV (As := [.int (z)]) (rest := []) X hK hP (wR_g G ((u.1, Y)) (k := 0) (by decide)) rfl (m3_isNode l G ((u.1, Y)) hL (hk) z) ⟨rfl, rfl⟩ tw_2_229 tw_2_231 tw_0_27 tw_1_6 tw_2_232 ⟨by decide +kernel, by decide +kernel, (by decide +kernel : (parseMethodDescriptor yX3_isNode.desc).map (fun d => d.parameters.length) = some 1)⟩ ⟨Nat.le_of_ble_eq_true rfl, Nat.le_of_ble_eq_true rfl⟩ hl.1 rfl (Nat.le_of_ble_eq_true rfl) ⟨Nat.zero_le _, Nat.zero_le _⟩ dX3_bringVote_23) hS (fun r_23 u_23 H locs hq_23 hP hS => ?_)
          have hP := k_su hq_23.1 hP
          rcases hq_23.2 with ⟨j_23, hj_23, hx_23, hr_23⟩ | ⟨hz_23, hr_23⟩
          · subst hx_23
            subst hr_23
            replace hj_23 : j_23 < gn G := hj_23
            refine lv_if_ne (tgt := 32) hx hb dX3_bringVote_26 (by decide) (fun c_26 => ?_) (fun c_26 => ?_)
            · refine lv_aload_n hx hb dX3_bringVote_32 rfl (lv_at hl 0 rfl) ?_
              refine k_get (v := .ref (gL G 10)) X hK inX3 rfl hP (wR_g G ((u.1, Y)) (k := 0) (by decide)) 13 (by decide) tw_2_148 rfl dX3_bringVote_33 ?_
              refine lv_bipush (v := nI 10) hx hb dX3_bringVote_36 (by decide) ?_
              refine lv_iload_n hx hb dX3_bringVote_38 rfl (lv_at hl 2 rfl) ?_
              refine lv_iload_n hx hb dX3_bringVote_39 rfl (lv_at hl 1 rfl) ?_
              refine k_ci (k_runS (As := [.int (nI j_15), .int (nI j_7)]) (rest := [.int (nI 10), .ref (gL G 10)]) X hK hP (m3_letter l G (AR G) (wR G) ((u.1, Y)) j_15 j_7) ⟨rfl, rfl⟩ tw_3_10 tw_3_11 tw_1_6 tw_3_12 ⟨by decide +kernel, by decide +kernel, (by decide +kernel : (parseMethodDescriptor yX3_letter.desc).map (fun d => d.parameters.length) = some 2)⟩ ⟨Nat.le_of_ble_eq_true rfl, Nat.le_of_ble_eq_true rfl⟩ hl.1 rfl (Nat.le_of_ble_eq_true rfl) ⟨Nat.zero_le _, Nat.zero_le _⟩ dX3_bringVote_40) hS (fun r_40 u_40 H locs hq_40 hP hS => ?_)
              have hP := k_su hq_40.2 hP
              refine k_ti hq_40.1 ?_
              refine lv_imul hx hb dX3_bringVote_43 ?_
              refine k_ti (pk_mul 10 (11 * j_15 + 1 + j_7)) ?_
              refine lv_iload_n hx hb dX3_bringVote_44 rfl (lv_at hl 3 rfl) ?_
              refine lv_iadd hx hb dX3_bringVote_45 ?_
              refine k_ti (nI_add (10 * (11 * j_15 + 1 + j_7)) j_23) ?_
              refine k_zld (k := 10 * (11 * j_15 + 1 + j_7) + j_23) (v := bI (mWy u.1 (11 * j_15 + 1 + j_7) j_23)) X hK hP (wR_g G ((u.1, Y)) (k := 10) (by decide)) (by omega) (by decide) (f10_at _ (show j_23 < 10 by omega)) dX3_bringVote_46 ?_
              refine lv_if_ne (tgt := 53) hx hb dX3_bringVote_47 (by decide) (fun c_47 => ?_) (fun c_47 => ?_)
              · have c_47 : (mWy u.1 (11 * j_15 + 1 + j_7) j_23) = true := (bI_ne0 _).mp c_47
                refine lv_aload_n hx hb dX3_bringVote_53 rfl (lv_at hl 0 rfl) ?_
                refine lv_iload_n hx hb dX3_bringVote_54 rfl (lv_at hl 3 rfl) ?_
                refine lv_iload_n hx hb dX3_bringVote_55 rfl (lv_at hl 2 rfl) ?_
                refine lv_iload_n hx hb dX3_bringVote_56 rfl (lv_at hl 1 rfl) ?_
                refine k_ci (k_runS (As := [.int (nI j_15), .int (nI j_7)]) (rest := [.int (nI j_23), .ref (gL G 0)]) X hK hP (m3_letter l G (AR G) (wR G) ((u.1, Y)) j_15 j_7) ⟨rfl, rfl⟩ tw_3_10 tw_3_11 tw_1_6 tw_3_12 ⟨by decide +kernel, by decide +kernel, (by decide +kernel : (parseMethodDescriptor yX3_letter.desc).map (fun d => d.parameters.length) = some 2)⟩ ⟨Nat.le_of_ble_eq_true rfl, Nat.le_of_ble_eq_true rfl⟩ hl.1 rfl (Nat.le_of_ble_eq_true rfl) ⟨Nat.zero_le _, Nat.zero_le _⟩ dX3_bringVote_57) hS (fun r_57 u_57 H locs hq_57 hP hS => ?_)
                have hP := k_su hq_57.2 hP
                refine k_ti hq_57.1 ?_
                refine k_cv (k_runV (As := [.int (nI j_23), .int (nI (11 * j_15 + 1 + j_7))]) (rest := []) X hK hP (wR_g G ((u.1, Y)) (k := 0) (by decide)) rfl (m3_comes l G u Y hL hI.1 hY (v := j_23) (l0 := (11 * j_15 + 1 + j_7)) (by omega) c_47) ⟨rfl, rfl⟩ tw_3_37 tw_3_39 tw_0_34 tw_1_6 tw_3_40 ⟨by decide +kernel, by decide +kernel, (by decide +kernel : (parseMethodDescriptor yX3_comes.desc).map (fun d => d.parameters.length) = some 2)⟩ ⟨Nat.le_of_ble_eq_true rfl, Nat.le_of_ble_eq_true rfl⟩ hl.1 rfl (Nat.le_of_ble_eq_true rfl) ⟨Nat.zero_le _, Nat.zero_le _⟩ dX3_bringVote_60) hS (fun u_60 H locs hq_60 hP hS => ?_)
                obtain ⟨M_60, Y_60⟩ := u_60
                obtain ⟨hM_60, hY_60, hT_60⟩ := hq_60
                dsimp only at hM_60 hY_60 hT_60
                subst hM_60
                have hP := k_su (show _ = ((cLetV (gn G) u j_23 j_7 j_15).1, Y_60) by rw [step_V (by omega) c_47]) hP
                rw [step_V (by omega) c_47] at hY_60
                refine lv_iconst (v := nI 1) hx hb dX3_bringVote_63 (by decide) ?_
                exact k_reti X hr hlocks hP hS dX3_bringVote_64 (rp (w := cLetV (gn G) u j_23 j_7 j_15) (by simp only [pBringVote, ix_some hj_7 (show gn G < 2 ^ 31 by omega), ix_some hj_15 (show mT u.1 < 2 ^ 31 by omega), ix_some hj_23 (show gn G < 2 ^ 31 by omega)]; rw [if_pos c_47]; rfl) (hY_60))
              · have c_47 : (mWy u.1 (11 * j_15 + 1 + j_7) j_23) = false := (bI_eq0 _).mp c_47
                refine lv_bipush (v := -3) hx hb dX3_bringVote_50 (by decide) ?_
                exact k_reti X hr hlocks hP hS dX3_bringVote_52 (rp (w := u) (by simp only [pBringVote, ix_some hj_7 (show gn G < 2 ^ 31 by omega), ix_some hj_15 (show mT u.1 < 2 ^ 31 by omega), ix_some hj_23 (show gn G < 2 ^ 31 by omega)]; rw [if_neg (by rw [c_47]; decide)]) (hY))
            · exact absurd c_26 (by decide)
          · subst hr_23
            refine lv_if_ne (tgt := 32) hx hb dX3_bringVote_26 (by decide) (fun c_26 => ?_) (fun c_26 => ?_)
            · exact absurd rfl c_26
            · refine lv_bipush (v := -2) hx hb dX3_bringVote_29 (by decide) ?_
              exact k_reti X hr hlocks hP hS dX3_bringVote_31 (rp (w := u) (by simp only [pBringVote, ix_some hj_7 (show gn G < 2 ^ 31 by omega), ix_some hj_15 (show mT u.1 < 2 ^ 31 by omega), ix_none hz_23 (show gn G < 2 ^ 31 by omega)] <;> (first | done | rfl | (split <;> first | rfl | (split <;> first | rfl | (split <;> rfl))))) (hY))
      · subst hr_15
        refine lv_if_eq (tgt := 29) hx hb dX3_bringVote_18 (by decide) (fun c_18 => ?_) (fun c_18 => ?_)
        · refine lv_bipush (v := -2) hx hb dX3_bringVote_29 (by decide) ?_
          exact k_reti X hr hlocks hP hS dX3_bringVote_31 (rp (w := u) (by simp only [pBringVote, ix_some hj_7 (show gn G < 2 ^ 31 by omega), ix_none hz_15 (show mT u.1 < 2 ^ 31 by omega)] <;> (first | done | rfl | (split <;> first | rfl | (split <;> first | rfl | (split <;> rfl))))) (hY))
        · exact absurd rfl c_18
  · subst hr_7
    refine lv_if_eq (tgt := 29) hx hb dX3_bringVote_10 (by decide) (fun c_10 => ?_) (fun c_10 => ?_)
    · refine lv_bipush (v := -2) hx hb dX3_bringVote_29 (by decide) ?_
      exact k_reti X hr hlocks hP hS dX3_bringVote_31 (rp (w := u) (by simp only [pBringVote, ix_none hz_7 (show gn G < 2 ^ 31 by omega)] <;> (first | done | rfl | (split <;> first | rfl | (split <;> first | rfl | (split <;> rfl))))) (hY))
    · exact absurd rfl c_10

set_option maxHeartbeats 4000000 in
set_option maxRecDepth 100000 in
theorem m3_flow (l : Launch) (G : kG) (u : CS) (Y : YS) (hL : layR G) (hI : Inv G u) (hY : InvY (gn G) u.1 Y) (x : Int32) : KMi l G (AR G) (wR G) yX3_flow cX3_flow 2 (Option.some FieldType.int) ({ frames := 6, cells := 0, slots := 0, locals := 138 }) [.ref (gL G 0), .int (x)] (u.1, Y) (fun zz rr => RP (gn G) (pFlow (gn G) u x) zz rr) := by
  refine K_of (by decide) (Nat.le_of_ble_eq_true rfl) ?_
  intro p e s m below meth c X hr hlocks hnm hK hP ls hl
  have hx := X.1
  have hb := X.2.1
  have hown := X.2.2.2.1
  have hts := X.2.2.2.2
  have hS : va_S (AR G) s.heap s.heap [] := va_S.rf
  have hl : lv_has ls 2 [(0, .ref (gL G 0)), (1, .int (x))] := hl
  have hk : okR G (u.1, Y) := okR_of hI.1.1 Y
  obtain ⟨⟨kn4, kn10⟩, ⟨kT1, kT61⟩, kP40, kLd, kPar, kEp, kHt, kVf⟩ := id hk
  dsimp only at kT1 kT61 kP40 kLd kPar kEp kHt kVf
  refine lv_aload_n hx hb dX3_flow_0 rfl (lv_at hl 0 rfl) ?_
  refine lv_iconst (v := nI 0) hx hb dX3_flow_1 (by decide) ?_
  refine k_put (v := .int (nI 0)) X hK inX3 rfl tyX3_ok nmX3 hP (wR_D hL _) hS (wR_g G ((u.1, Y)) (k := 0) (by decide)) 0 (by decide) tw_2_135 rfl rfl rfl (Nat.le_of_ble_eq_true rfl) ((u.1, Y)) (rs_th G ((u.1, Y))) dX3_flow_2 (fun H locs hP hS => ?_)
  refine lv_aload_n hx hb dX3_flow_5 rfl (lv_at hl 0 rfl) ?_
  refine lv_iload_n hx hb dX3_flow_6 rfl (lv_at hl 1 rfl) ?_
  refine k_ci (k_runV (As := [.int (x)]) (rest := []) X hK hP (wR_g G ((u.1, Y)) (k := 0) (by decide)) rfl (m3_isNode l G ((u.1, Y)) hL (hk) x) ⟨rfl, rfl⟩ tw_2_229 tw_2_231 tw_0_27 tw_1_6 tw_2_232 ⟨by decide +kernel, by decide +kernel, (by decide +kernel : (parseMethodDescriptor yX3_isNode.desc).map (fun d => d.parameters.length) = some 1)⟩ ⟨Nat.le_of_ble_eq_true rfl, Nat.le_of_ble_eq_true rfl⟩ hl.1 rfl (Nat.le_of_ble_eq_true rfl) ⟨Nat.zero_le _, Nat.zero_le _⟩ dX3_flow_7) hS (fun r_7 u_7 H locs hq_7 hP hS => ?_)
  have hP := k_su hq_7.1 hP
  rcases hq_7.2 with ⟨j_7, hj_7, hx_7, hr_7⟩ | ⟨hz_7, hr_7⟩
  · subst hx_7
    subst hr_7
    replace hj_7 : j_7 < gn G := hj_7
    refine lv_if_eq (tgt := 21) hx hb dX3_flow_10 (by decide) (fun c_10 => ?_) (fun c_10 => ?_)
    · exact absurd c_10 (by decide)
    · refine lv_aload_n hx hb dX3_flow_13 rfl (lv_at hl 0 rfl) ?_
      refine lv_iload_n hx hb dX3_flow_14 rfl (lv_at hl 1 rfl) ?_
      refine k_ci (k_runV (As := [.int (nI j_7)]) (rest := []) X hK hP (wR_g G ((u.1, Y)) (k := 0) (by decide)) rfl (m3_flowTo l G u Y hL hI hY (v := j_7) (by omega)) ⟨rfl, rfl⟩ tw_3_49 tw_3_51 tw_0_35 tw_1_6 tw_3_52 ⟨by decide +kernel, by decide +kernel, (by decide +kernel : (parseMethodDescriptor yX3_flowTo.desc).map (fun d => d.parameters.length) = some 1)⟩ ⟨Nat.le_of_ble_eq_true rfl, Nat.le_of_ble_eq_true rfl⟩ hl.1 rfl (Nat.le_of_ble_eq_true rfl) ⟨Nat.zero_le _, Nat.zero_le _⟩ dX3_flow_15) hS (fun r_15 u_15 H locs hq_15 hP hS => ?_)
      obtain ⟨M_15, Y_15⟩ := u_15
      obtain ⟨hz_15, hM_15, hY_15⟩ := hq_15
      dsimp only at hM_15 hY_15
      subst hM_15
      refine k_ti hz_15 ?_
      refine lv_goto (tgt := 23) hx hb dX3_flow_18 (by decide) ?_
      exact k_reti X hr hlocks hP hS dX3_flow_23 (rp (w := cFlow (gn G) u j_7) (by simp only [pFlow, ix_some hj_7 (show gn G < 2 ^ 31 by omega)]; rw [pk_sub (flow_C_le hI hj_7)]) (hY_15))
  · subst hr_7
    refine lv_if_eq (tgt := 21) hx hb dX3_flow_10 (by decide) (fun c_10 => ?_) (fun c_10 => ?_)
    · refine lv_bipush (v := -2) hx hb dX3_flow_21 (by decide) ?_
      exact k_reti X hr hlocks hP hS dX3_flow_23 (rp (w := u) (by simp only [pFlow, ix_none hz_7 (show gn G < 2 ^ 31 by omega)] <;> (first | done | rfl | (split <;> first | rfl | (split <;> first | rfl | (split <;> rfl))))) (hY))
    · exact absurd rfl c_10

set_option maxHeartbeats 4000000 in
set_option maxRecDepth 100000 in
theorem m3_about (l : Launch) (G : kG) (u : CS) (Y : YS) (hL : layR G) (hI : Inv G u) (hY : InvY (gn G) u.1 Y) (x y : Int32) : KMi l G (AR G) (wR G) yX3_about cX3_about 3 (Option.some FieldType.int) ({ frames := 2, cells := 0, slots := 0, locals := 46 }) [.ref (gL G 0), .int (x), .int (y)] (u.1, Y) (fun zz rr => RP (gn G) (pAbout u x y) zz rr) := by
  refine K_of (by decide) (Nat.le_of_ble_eq_true rfl) ?_
  intro p e s m below meth c X hr hlocks hnm hK hP ls hl
  have hx := X.1
  have hb := X.2.1
  have hown := X.2.2.2.1
  have hts := X.2.2.2.2
  have hS : va_S (AR G) s.heap s.heap [] := va_S.rf
  have hl : lv_has ls 3 [(0, .ref (gL G 0)), (1, .int (x)), (2, .int (y))] := hl
  have hk : okR G (u.1, Y) := okR_of hI.1.1 Y
  obtain ⟨⟨kn4, kn10⟩, ⟨kT1, kT61⟩, kP40, kLd, kPar, kEp, kHt, kVf⟩ := id hk
  dsimp only at kT1 kT61 kP40 kLd kPar kEp kHt kVf
  refine lv_aload_n hx hb dX3_about_0 rfl (lv_at hl 0 rfl) ?_
  refine lv_iconst (v := nI 0) hx hb dX3_about_1 (by decide) ?_
  refine k_put (v := .int (nI 0)) X hK inX3 rfl tyX3_ok nmX3 hP (wR_D hL _) hS (wR_g G ((u.1, Y)) (k := 0) (by decide)) 0 (by decide) tw_2_135 rfl rfl rfl (Nat.le_of_ble_eq_true rfl) ((u.1, Y)) (rs_th G ((u.1, Y))) dX3_about_2 (fun H locs hP hS => ?_)
  refine lv_aload_n hx hb dX3_about_5 rfl (lv_at hl 0 rfl) ?_
  refine lv_iload_n hx hb dX3_about_6 rfl (lv_at hl 1 rfl) ?_
  refine k_ci (k_runV (As := [.int (x)]) (rest := []) X hK hP (wR_g G ((u.1, Y)) (k := 0) (by decide)) rfl (m3_isBlock l G ((u.1, Y)) hL (hk) x) ⟨rfl, rfl⟩ tw_3_33 tw_3_35 tw_0_33 tw_1_6 tw_3_36 ⟨by decide +kernel, by decide +kernel, (by decide +kernel : (parseMethodDescriptor yX3_isBlock.desc).map (fun d => d.parameters.length) = some 1)⟩ ⟨Nat.le_of_ble_eq_true rfl, Nat.le_of_ble_eq_true rfl⟩ hl.1 rfl (Nat.le_of_ble_eq_true rfl) ⟨Nat.zero_le _, Nat.zero_le _⟩ dX3_about_7) hS (fun r_7 u_7 H locs hq_7 hP hS => ?_)
  have hP := k_su hq_7.1 hP
  rcases hq_7.2 with ⟨j_7, hj_7, hx_7, hr_7⟩ | ⟨hz_7, hr_7⟩
  · subst hx_7
    subst hr_7
    replace hj_7 : j_7 < mT u.1 := hj_7
    refine lv_if_eq (tgt := 25) hx hb dX3_about_10 (by decide) (fun c_10 => ?_) (fun c_10 => ?_)
    · exact absurd c_10 (by decide)
    · refine lv_iload_n hx hb dX3_about_13 rfl (lv_at hl 2 rfl) ?_
      refine lv_i2l (v := y.toInt64) hx hb dX3_about_14 rfl ?_
      refine lv_lconst (v := 0) hx hb dX3_about_15 rfl ?_
      refine lv_ldc2 (v := 4) hx hb hown (hts _ tw_3_81) dX3_about_16 ?_
      refine k_ci (k_runS (As := [.long (y.toInt64), .long (0), .long (4)]) (rest := []) X hK hP (m3_in l G (AR G) (wR G) ((u.1, Y)) y.toInt64 0 4) ⟨rfl, rfl⟩ tw_2_226 tw_2_227 tw_1_6 tw_2_228 ⟨by decide +kernel, by decide +kernel, (by decide +kernel : (parseMethodDescriptor yX3_in.desc).map (fun d => d.parameters.length) = some 3)⟩ ⟨Nat.le_of_ble_eq_true rfl, Nat.le_of_ble_eq_true rfl⟩ hl.1 rfl (Nat.le_of_ble_eq_true rfl) ⟨Nat.zero_le _, Nat.zero_le _⟩ dX3_about_19) hS (fun r_19 u_19 H locs hq_19 hP hS => ?_)
      have hP := k_su hq_19.2 hP
      have hq2_19 : r_19 = bI (decide (lN 0 ≤ y.toInt64) && decide (y.toInt64 ≤ lN 4)) := by
        rw [hq_19.1, show 4 = lN 4 from rfl]; rfl
      rcases in_cases y (a := 0) (k := 4) (by decide) (by omega) with ⟨j_19, hj_19, hx_19, hr_19⟩ | ⟨hz_19, hr_19⟩
      · rw [hr_19] at hq2_19
        subst hx_19
        refine k_ti (y := 1) hq2_19 ?_
        refine lv_if_ne (tgt := 28) hx hb dX3_about_22 (by decide) (fun c_22 => ?_) (fun c_22 => ?_)
        · refine lv_iload_n hx hb dX3_about_28 rfl (lv_at hl 2 rfl) ?_
          refine lv_if_ne (tgt := 41) hx hb dX3_about_29 (by decide) (fun c_29 => ?_) (fun c_29 => ?_)
          · have c_29 : j_19 ≠ 0 := czNe c_29 (by omega) (by omega)
            refine lv_iload_n hx hb dX3_about_41 rfl (lv_at hl 2 rfl) ?_
            refine lv_iconst (v := nI 1) hx hb dX3_about_42 (by decide) ?_
            refine lv_icmp_ne (tgt := 55) hx hb dX3_about_43 (by decide) (fun c_43 => ?_) (fun c_43 => ?_)
            · have c_43 : j_19 ≠ 1 := cNe c_43 (by omega) (by omega)
              refine lv_iload_n hx hb dX3_about_55 rfl (lv_at hl 2 rfl) ?_
              refine lv_iconst (v := nI 2) hx hb dX3_about_56 (by decide) ?_
              refine lv_icmp_ne (tgt := 69) hx hb dX3_about_57 (by decide) (fun c_57 => ?_) (fun c_57 => ?_)
              · have c_57 : j_19 ≠ 2 := cNe c_57 (by omega) (by omega)
                refine lv_iload_n hx hb dX3_about_69 rfl (lv_at hl 2 rfl) ?_
                refine lv_iconst (v := nI 3) hx hb dX3_about_70 (by decide) ?_
                refine lv_icmp_ne (tgt := 83) hx hb dX3_about_71 (by decide) (fun c_71 => ?_) (fun c_71 => ?_)
                · have c_71 : j_19 ≠ 3 := cNe c_71 (by omega) (by omega)
                  refine lv_aload_n hx hb dX3_about_83 rfl (lv_at hl 0 rfl) ?_
                  refine k_get (v := .ref (gL G 8)) X hK inX3 rfl hP (wR_g G ((u.1, Y)) (k := 0) (by decide)) 11 (by decide) tw_2_146 rfl dX3_about_84 ?_
                  refine lv_iload_n hx hb dX3_about_87 rfl (lv_at hl 1 rfl) ?_
                  refine k_ild (k := j_7) (v := eP (mMk u.1) j_7) X hK hP (wR_g G ((u.1, Y)) (k := 8) (by decide)) (by omega) (by decide) rfl dX3_about_88 ?_
                  exact k_reti X hr hlocks hP hS dX3_about_89 (rp (w := u) (by simp only [pAbout, ix_some hj_7 (show mT u.1 < 2 ^ 31 by omega), (ix_some (show j_19 < 5 by omega) (show 5 < 2 ^ 31 by decide)).trans (congrArg some (show j_19 = 4 by omega))] <;> (first | done | rfl | (split <;> first | rfl | (split <;> first | rfl | (split <;> rfl))))) (hY))
                · have c_71 : j_19 = 3 := cEq c_71 (by omega) (by omega)
                  refine lv_aload_n hx hb dX3_about_74 rfl (lv_at hl 0 rfl) ?_
                  refine k_get (v := .ref (gL G 7)) X hK inX3 rfl hP (wR_g G ((u.1, Y)) (k := 0) (by decide)) 10 (by decide) tw_2_145 rfl dX3_about_75 ?_
                  refine lv_iload_n hx hb dX3_about_78 rfl (lv_at hl 1 rfl) ?_
                  refine k_ild (k := j_7) (v := nI (mHt u.1 j_7)) X hK hP (wR_g G ((u.1, Y)) (k := 7) (by decide)) (by omega) (by decide) rfl dX3_about_79 ?_
                  refine lv_goto (tgt := 89) hx hb dX3_about_80 (by decide) ?_
                  exact k_reti X hr hlocks hP hS dX3_about_89 (rp (w := u) (by simp only [pAbout, ix_some hj_7 (show mT u.1 < 2 ^ 31 by omega), (ix_some (show j_19 < 5 by omega) (show 5 < 2 ^ 31 by decide)).trans (congrArg some (show j_19 = 3 by omega))] <;> (first | done | rfl | (split <;> first | rfl | (split <;> first | rfl | (split <;> rfl))))) (hY))
              · have c_57 : j_19 = 2 := cEq c_57 (by omega) (by omega)
                refine lv_aload_n hx hb dX3_about_60 rfl (lv_at hl 0 rfl) ?_
                refine k_get (v := .ref (gL G 6)) X hK inX3 rfl hP (wR_g G ((u.1, Y)) (k := 0) (by decide)) 9 (by decide) tw_2_144 rfl dX3_about_61 ?_
                refine lv_iload_n hx hb dX3_about_64 rfl (lv_at hl 1 rfl) ?_
                refine k_ild (k := j_7) (v := mLo u.1 j_7) X hK hP (wR_g G ((u.1, Y)) (k := 6) (by decide)) (by omega) (by decide) rfl dX3_about_65 ?_
                refine lv_goto (tgt := 89) hx hb dX3_about_66 (by decide) ?_
                exact k_reti X hr hlocks hP hS dX3_about_89 (rp (w := u) (by simp only [pAbout, ix_some hj_7 (show mT u.1 < 2 ^ 31 by omega), (ix_some (show j_19 < 5 by omega) (show 5 < 2 ^ 31 by decide)).trans (congrArg some (show j_19 = 2 by omega))] <;> (first | done | rfl | (split <;> first | rfl | (split <;> first | rfl | (split <;> rfl))))) (hY))
            · have c_43 : j_19 = 1 := cEq c_43 (by omega) (by omega)
              refine lv_aload_n hx hb dX3_about_46 rfl (lv_at hl 0 rfl) ?_
              refine k_get (v := .ref (gL G 5)) X hK inX3 rfl hP (wR_g G ((u.1, Y)) (k := 0) (by decide)) 8 (by decide) tw_2_143 rfl dX3_about_47 ?_
              refine lv_iload_n hx hb dX3_about_50 rfl (lv_at hl 1 rfl) ?_
              refine k_ild (k := j_7) (v := nI (mEp u.1 j_7)) X hK hP (wR_g G ((u.1, Y)) (k := 5) (by decide)) (by omega) (by decide) rfl dX3_about_51 ?_
              refine lv_goto (tgt := 89) hx hb dX3_about_52 (by decide) ?_
              exact k_reti X hr hlocks hP hS dX3_about_89 (rp (w := u) (by simp only [pAbout, ix_some hj_7 (show mT u.1 < 2 ^ 31 by omega), (ix_some (show j_19 < 5 by omega) (show 5 < 2 ^ 31 by decide)).trans (congrArg some (show j_19 = 1 by omega))] <;> (first | done | rfl | (split <;> first | rfl | (split <;> first | rfl | (split <;> rfl))))) (hY))
          · have c_29 : j_19 = 0 := czEq c_29 (by omega) (by omega)
            refine lv_aload_n hx hb dX3_about_32 rfl (lv_at hl 0 rfl) ?_
            refine k_get (v := .ref (gL G 4)) X hK inX3 rfl hP (wR_g G ((u.1, Y)) (k := 0) (by decide)) 7 (by decide) tw_2_142 rfl dX3_about_33 ?_
            refine lv_iload_n hx hb dX3_about_36 rfl (lv_at hl 1 rfl) ?_
            refine k_ild (k := j_7) (v := eP (mPar u.1) j_7) X hK hP (wR_g G ((u.1, Y)) (k := 4) (by decide)) (by omega) (by decide) rfl dX3_about_37 ?_
            refine lv_goto (tgt := 89) hx hb dX3_about_38 (by decide) ?_
            exact k_reti X hr hlocks hP hS dX3_about_89 (rp (w := u) (by simp only [pAbout, ix_some hj_7 (show mT u.1 < 2 ^ 31 by omega), (ix_some (show j_19 < 5 by omega) (show 5 < 2 ^ 31 by decide)).trans (congrArg some (show j_19 = 0 by omega))] <;> (first | done | rfl | (split <;> first | rfl | (split <;> first | rfl | (split <;> rfl))))) (hY))
        · exact absurd c_22 (by decide)
      · rw [hr_19] at hq2_19
        refine k_ti (y := 0) hq2_19 ?_
        refine lv_if_ne (tgt := 28) hx hb dX3_about_22 (by decide) (fun c_22 => ?_) (fun c_22 => ?_)
        · exact absurd rfl c_22
        · refine lv_bipush (v := -2) hx hb dX3_about_25 (by decide) ?_
          exact k_reti X hr hlocks hP hS dX3_about_27 (rp (w := u) (by simp only [pAbout, ix_some hj_7 (show mT u.1 < 2 ^ 31 by omega), ix_none (fun j hj => hz_19 j ⟨Nat.zero_le _, by omega⟩) (show 5 < 2 ^ 31 by decide)] <;> (first | done | rfl | (split <;> first | rfl | (split <;> first | rfl | (split <;> rfl))))) (hY))
  · subst hr_7
    refine lv_if_eq (tgt := 25) hx hb dX3_about_10 (by decide) (fun c_10 => ?_) (fun c_10 => ?_)
    · refine lv_bipush (v := -2) hx hb dX3_about_25 (by decide) ?_
      exact k_reti X hr hlocks hP hS dX3_about_27 (rp (w := u) (by simp only [pAbout, ix_none hz_7 (show mT u.1 < 2 ^ 31 by omega)] <;> (first | done | rfl | (split <;> first | rfl | (split <;> first | rfl | (split <;> rfl))))) (hY))
    · exact absurd rfl c_10

set_option maxHeartbeats 4000000 in
set_option maxRecDepth 100000 in
theorem m3_seen (l : Launch) (G : kG) (u : CS) (Y : YS) (hL : layR G) (hI : Inv G u) (hY : InvY (gn G) u.1 Y) (x y : Int32) : KMi l G (AR G) (wR G) yX3_seen cX3_seen 3 (Option.some FieldType.int) ({ frames := 3, cells := 0, slots := 0, locals := 70 }) [.ref (gL G 0), .int (x), .int (y)] (u.1, Y) (fun zz rr => RP (gn G) (pSeen (gn G) u x y) zz rr) := by
  refine K_of (by decide) (Nat.le_of_ble_eq_true rfl) ?_
  intro p e s m below meth c X hr hlocks hnm hK hP ls hl
  have hx := X.1
  have hb := X.2.1
  have hown := X.2.2.2.1
  have hts := X.2.2.2.2
  have hS : va_S (AR G) s.heap s.heap [] := va_S.rf
  have hl : lv_has ls 3 [(0, .ref (gL G 0)), (1, .int (x)), (2, .int (y))] := hl
  have hk : okR G (u.1, Y) := okR_of hI.1.1 Y
  obtain ⟨⟨kn4, kn10⟩, ⟨kT1, kT61⟩, kP40, kLd, kPar, kEp, kHt, kVf⟩ := id hk
  dsimp only at kT1 kT61 kP40 kLd kPar kEp kHt kVf
  refine lv_aload_n hx hb dX3_seen_0 rfl (lv_at hl 0 rfl) ?_
  refine lv_iconst (v := nI 0) hx hb dX3_seen_1 (by decide) ?_
  refine k_put (v := .int (nI 0)) X hK inX3 rfl tyX3_ok nmX3 hP (wR_D hL _) hS (wR_g G ((u.1, Y)) (k := 0) (by decide)) 0 (by decide) tw_2_135 rfl rfl rfl (Nat.le_of_ble_eq_true rfl) ((u.1, Y)) (rs_th G ((u.1, Y))) dX3_seen_2 (fun H locs hP hS => ?_)
  refine lv_aload_n hx hb dX3_seen_5 rfl (lv_at hl 0 rfl) ?_
  refine lv_iload_n hx hb dX3_seen_6 rfl (lv_at hl 1 rfl) ?_
  refine k_ci (k_runV (As := [.int (x)]) (rest := []) X hK hP (wR_g G ((u.1, Y)) (k := 0) (by decide)) rfl (m3_isNode l G ((u.1, Y)) hL (hk) x) ⟨rfl, rfl⟩ tw_2_229 tw_2_231 tw_0_27 tw_1_6 tw_2_232 ⟨by decide +kernel, by decide +kernel, (by decide +kernel : (parseMethodDescriptor yX3_isNode.desc).map (fun d => d.parameters.length) = some 1)⟩ ⟨Nat.le_of_ble_eq_true rfl, Nat.le_of_ble_eq_true rfl⟩ hl.1 rfl (Nat.le_of_ble_eq_true rfl) ⟨Nat.zero_le _, Nat.zero_le _⟩ dX3_seen_7) hS (fun r_7 u_7 H locs hq_7 hP hS => ?_)
  have hP := k_su hq_7.1 hP
  rcases hq_7.2 with ⟨j_7, hj_7, hx_7, hr_7⟩ | ⟨hz_7, hr_7⟩
  · subst hx_7
    subst hr_7
    replace hj_7 : j_7 < gn G := hj_7
    refine lv_if_eq (tgt := 21) hx hb dX3_seen_10 (by decide) (fun c_10 => ?_) (fun c_10 => ?_)
    · exact absurd c_10 (by decide)
    · refine lv_aload_n hx hb dX3_seen_13 rfl (lv_at hl 0 rfl) ?_
      refine lv_iload_n hx hb dX3_seen_14 rfl (lv_at hl 2 rfl) ?_
      refine k_ci (k_runV (As := [.int (y)]) (rest := []) X hK hP (wR_g G ((u.1, Y)) (k := 0) (by decide)) rfl (m3_isBlock l G ((u.1, Y)) hL (hk) y) ⟨rfl, rfl⟩ tw_3_33 tw_3_35 tw_0_33 tw_1_6 tw_3_36 ⟨by decide +kernel, by decide +kernel, (by decide +kernel : (parseMethodDescriptor yX3_isBlock.desc).map (fun d => d.parameters.length) = some 1)⟩ ⟨Nat.le_of_ble_eq_true rfl, Nat.le_of_ble_eq_true rfl⟩ hl.1 rfl (Nat.le_of_ble_eq_true rfl) ⟨Nat.zero_le _, Nat.zero_le _⟩ dX3_seen_15) hS (fun r_15 u_15 H locs hq_15 hP hS => ?_)
      have hP := k_su hq_15.1 hP
      rcases hq_15.2 with ⟨j_15, hj_15, hx_15, hr_15⟩ | ⟨hz_15, hr_15⟩
      · subst hx_15
        subst hr_15
        replace hj_15 : j_15 < mT u.1 := hj_15
        refine lv_if_ne (tgt := 24) hx hb dX3_seen_18 (by decide) (fun c_18 => ?_) (fun c_18 => ?_)
        · refine lv_aload_n hx hb dX3_seen_24 rfl (lv_at hl 0 rfl) ?_
          refine lv_iload_n hx hb dX3_seen_25 rfl (lv_at hl 1 rfl) ?_
          refine k_cv (k_runV (As := [.int (nI j_7)]) (rest := []) X hK hP (wR_g G ((u.1, Y)) (k := 0) (by decide)) rfl (m3_workOut l G ((u.1, Y)) hL (hk) (v := j_7) (by omega) (xCh u.2) (hI.1).2.2.2.2.2.2.2.2.1 (inv_rn hI.1 _)) ⟨rfl, rfl⟩ tw_3_6 tw_3_8 tw_0_28 tw_1_6 tw_3_9 ⟨by decide +kernel, by decide +kernel, (by decide +kernel : (parseMethodDescriptor yX3_workOut.desc).map (fun d => d.parameters.length) = some 1)⟩ ⟨Nat.le_of_ble_eq_true rfl, Nat.le_of_ble_eq_true rfl⟩ hl.1 rfl (Nat.le_of_ble_eq_true rfl) ⟨Nat.zero_le _, Nat.zero_le _⟩ dX3_seen_26) hS (fun u_26 H locs hq_26 hP hS => ?_)
          obtain ⟨M_26, Y_26⟩ := u_26
          obtain ⟨hM_26, h4_26, hD_26, hR_26⟩ := hq_26
          dsimp only at hM_26 h4_26 hD_26 hR_26
          subst hM_26
          obtain ⟨eK, eN, eF, eT, eH⟩ := DV_uniq kPar hD_26 (hI.1.2.2.2.2.2.2.2.2.2.2 j_7 (by omega)).1
          have hY2 : InvY (gn G) u.1 Y_26 := InvY_Y hY h4_26.1 h4_26.2.1
          refine lv_aload_n hx hb dX3_seen_29 rfl (lv_at hl 0 rfl) ?_
          refine k_get (v := .ref (gL G 15)) X hK inX3 rfl hP (wR_g G ((u.1, Y_26)) (k := 0) (by decide)) 21 (by decide) tw_2_156 rfl dX3_seen_30 ?_
          refine lv_iload_n hx hb dX3_seen_33 rfl (lv_at hl 2 rfl) ?_
          refine k_zld (k := j_15) (v := bI ((yFi Y_26) j_15)) X hK hP (wR_g G ((u.1, Y_26)) (k := 15) (by decide)) (by omega) (by decide) rfl dX3_seen_34 ?_
          refine lv_if_eq (tgt := 42) hx hb dX3_seen_35 (by decide) (fun c_35 => ?_) (fun c_35 => ?_)
          · have c_35 : ((yFi Y_26) j_15) = false := (bI_eq0 _).mp c_35
            refine lv_aload_n hx hb dX3_seen_42 rfl (lv_at hl 0 rfl) ?_
            refine k_get (v := .ref (gL G 14)) X hK inX3 rfl hP (wR_g G ((u.1, Y_26)) (k := 0) (by decide)) 20 (by decide) tw_2_155 rfl dX3_seen_43 ?_
            refine lv_iload_n hx hb dX3_seen_46 rfl (lv_at hl 2 rfl) ?_
            refine k_zld (k := j_15) (v := bI ((yNo Y_26) j_15)) X hK hP (wR_g G ((u.1, Y_26)) (k := 14) (by decide)) (by omega) (by decide) rfl dX3_seen_47 ?_
            refine lv_if_eq (tgt := 55) hx hb dX3_seen_48 (by decide) (fun c_48 => ?_) (fun c_48 => ?_)
            · have c_48 : ((yNo Y_26) j_15) = false := (bI_eq0 _).mp c_48
              refine lv_aload_n hx hb dX3_seen_55 rfl (lv_at hl 0 rfl) ?_
              refine k_get (v := .ref (gL G 13)) X hK inX3 rfl hP (wR_g G ((u.1, Y_26)) (k := 0) (by decide)) 19 (by decide) tw_2_154 rfl dX3_seen_56 ?_
              refine lv_iload_n hx hb dX3_seen_59 rfl (lv_at hl 2 rfl) ?_
              refine k_zld (k := j_15) (v := bI ((yKn Y_26) j_15)) X hK hP (wR_g G ((u.1, Y_26)) (k := 13) (by decide)) (by omega) (by decide) rfl dX3_seen_60 ?_
              refine lv_if_eq (tgt := 68) hx hb dX3_seen_61 (by decide) (fun c_61 => ?_) (fun c_61 => ?_)
              · have c_61 : ((yKn Y_26) j_15) = false := (bI_eq0 _).mp c_61
                refine lv_aload_n hx hb dX3_seen_68 rfl (lv_at hl 0 rfl) ?_
                refine k_get (v := .ref (gL G 9)) X hK inX3 rfl hP (wR_g G ((u.1, Y_26)) (k := 0) (by decide)) 12 (by decide) tw_2_147 rfl dX3_seen_69 ?_
                refine lv_bipush (v := nI 10) hx hb dX3_seen_72 (by decide) ?_
                refine lv_iload_n hx hb dX3_seen_74 rfl (lv_at hl 2 rfl) ?_
                refine lv_iconst (v := -1) hx hb dX3_seen_75 (by decide) ?_
                refine k_ci (k_runS (As := [.int (nI j_15), .int (-1)]) (rest := [.int (nI 10), .ref (gL G 9)]) X hK hP (m3_letterN l G (AR G) (wR G) ((u.1, Y_26)) j_15) ⟨rfl, rfl⟩ tw_3_10 tw_3_11 tw_1_6 tw_3_12 ⟨by decide +kernel, by decide +kernel, (by decide +kernel : (parseMethodDescriptor yX3_letter.desc).map (fun d => d.parameters.length) = some 2)⟩ ⟨Nat.le_of_ble_eq_true rfl, Nat.le_of_ble_eq_true rfl⟩ hl.1 rfl (Nat.le_of_ble_eq_true rfl) ⟨Nat.zero_le _, Nat.zero_le _⟩ dX3_seen_76) hS (fun r_76 u_76 H locs hq_76 hP hS => ?_)
                have hP := k_su hq_76.2 hP
                refine k_ti hq_76.1 ?_
                refine lv_imul hx hb dX3_seen_79 ?_
                refine k_ti (pk_mul 10 (11 * j_15)) ?_
                refine lv_iload_n hx hb dX3_seen_80 rfl (lv_at hl 1 rfl) ?_
                refine lv_iadd hx hb dX3_seen_81 ?_
                refine k_ti (nI_add (10 * (11 * j_15)) j_7) ?_
                refine k_zld (k := 10 * (11 * j_15) + j_7) (v := bI (mHs u.1 (11 * j_15) j_7)) X hK hP (wR_g G ((u.1, Y_26)) (k := 9) (by decide)) (by omega) (by decide) (f10_at _ (show j_7 < 10 by omega)) dX3_seen_82 ?_
                refine lv_if_eq (tgt := 90) hx hb dX3_seen_83 (by decide) (fun c_83 => ?_) (fun c_83 => ?_)
                · have c_83 : (mHs u.1 (11 * j_15) j_7) = false := (bI_eq0 _).mp c_83
                  refine lv_iconst (v := nI 0) hx hb dX3_seen_90 (by decide) ?_
                  exact k_reti X hr hlocks hP hS dX3_seen_91 (rp (w := u) (by simp only [pSeen, ix_some hj_7 (show gn G < 2 ^ 31 by omega), ix_some hj_15 (show mT u.1 < 2 ^ 31 by omega)]; rw [if_neg (by rw [← eF _ hj_15, c_35]; decide), if_neg (by rw [← eN _ hj_15, c_48]; decide), if_neg (by rw [← eK _ hj_15, c_61]; decide), if_neg (by rw [c_83]; decide)]; rfl) (hY2))
                · have c_83 : (mHs u.1 (11 * j_15) j_7) = true := (bI_ne0 _).mp c_83
                  refine lv_iconst (v := nI 1) hx hb dX3_seen_86 (by decide) ?_
                  refine lv_goto (tgt := 91) hx hb dX3_seen_87 (by decide) ?_
                  exact k_reti X hr hlocks hP hS dX3_seen_91 (rp (w := u) (by simp only [pSeen, ix_some hj_7 (show gn G < 2 ^ 31 by omega), ix_some hj_15 (show mT u.1 < 2 ^ 31 by omega)]; rw [if_neg (by rw [← eF _ hj_15, c_35]; decide), if_neg (by rw [← eN _ hj_15, c_48]; decide), if_neg (by rw [← eK _ hj_15, c_61]; decide), if_pos c_83]; rfl) (hY2))
              · have c_61 : ((yKn Y_26) j_15) = true := (bI_ne0 _).mp c_61
                refine lv_iconst (v := nI 2) hx hb dX3_seen_64 (by decide) ?_
                refine lv_goto (tgt := 91) hx hb dX3_seen_65 (by decide) ?_
                exact k_reti X hr hlocks hP hS dX3_seen_91 (rp (w := u) (by simp only [pSeen, ix_some hj_7 (show gn G < 2 ^ 31 by omega), ix_some hj_15 (show mT u.1 < 2 ^ 31 by omega)]; rw [if_neg (by rw [← eF _ hj_15, c_35]; decide), if_neg (by rw [← eN _ hj_15, c_48]; decide), if_pos (by rw [← eK _ hj_15]; exact c_61)]; rfl) (hY2))
            · have c_48 : ((yNo Y_26) j_15) = true := (bI_ne0 _).mp c_48
              refine lv_iconst (v := nI 3) hx hb dX3_seen_51 (by decide) ?_
              refine lv_goto (tgt := 91) hx hb dX3_seen_52 (by decide) ?_
              exact k_reti X hr hlocks hP hS dX3_seen_91 (rp (w := u) (by simp only [pSeen, ix_some hj_7 (show gn G < 2 ^ 31 by omega), ix_some hj_15 (show mT u.1 < 2 ^ 31 by omega)]; rw [if_neg (by rw [← eF _ hj_15, c_35]; decide), if_pos (by rw [← eN _ hj_15]; exact c_48)]; rfl) (hY2))
          · have c_35 : ((yFi Y_26) j_15) = true := (bI_ne0 _).mp c_35
            refine lv_iconst (v := nI 4) hx hb dX3_seen_38 (by decide) ?_
            refine lv_goto (tgt := 91) hx hb dX3_seen_39 (by decide) ?_
            exact k_reti X hr hlocks hP hS dX3_seen_91 (rp (w := u) (by simp only [pSeen, ix_some hj_7 (show gn G < 2 ^ 31 by omega), ix_some hj_15 (show mT u.1 < 2 ^ 31 by omega)]; rw [if_pos (by rw [← eF _ hj_15]; exact c_35)]; rfl) (hY2))
        · exact absurd c_18 (by decide)
      · subst hr_15
        refine lv_if_ne (tgt := 24) hx hb dX3_seen_18 (by decide) (fun c_18 => ?_) (fun c_18 => ?_)
        · exact absurd rfl c_18
        · refine lv_bipush (v := -2) hx hb dX3_seen_21 (by decide) ?_
          exact k_reti X hr hlocks hP hS dX3_seen_23 (rp (w := u) (by simp only [pSeen, ix_some hj_7 (show gn G < 2 ^ 31 by omega), ix_none hz_15 (show mT u.1 < 2 ^ 31 by omega)] <;> (first | done | rfl | (split <;> first | rfl | (split <;> first | rfl | (split <;> rfl))))) (hY))
  · subst hr_7
    refine lv_if_eq (tgt := 21) hx hb dX3_seen_10 (by decide) (fun c_10 => ?_) (fun c_10 => ?_)
    · refine lv_bipush (v := -2) hx hb dX3_seen_21 (by decide) ?_
      exact k_reti X hr hlocks hP hS dX3_seen_23 (rp (w := u) (by simp only [pSeen, ix_none hz_7 (show gn G < 2 ^ 31 by omega)] <;> (first | done | rfl | (split <;> first | rfl | (split <;> first | rfl | (split <;> rfl))))) (hY))
    · exact absurd rfl c_10

set_option maxHeartbeats 4000000 in
set_option maxRecDepth 100000 in
theorem m3_votes (l : Launch) (G : kG) (u : CS) (Y : YS) (hL : layR G) (hI : Inv G u) (hY : InvY (gn G) u.1 Y) (x y : Int32) : KMi l G (AR G) (wR G) yX3_votes cX3_votes 3 (Option.some FieldType.int) ({ frames := 2, cells := 0, slots := 0, locals := 46 }) [.ref (gL G 0), .int (x), .int (y)] (u.1, Y) (fun zz rr => RP (gn G) (pVotes (gn G) u x y) zz rr) := by
  refine K_of (by decide) (Nat.le_of_ble_eq_true rfl) ?_
  intro p e s m below meth c X hr hlocks hnm hK hP ls hl
  have hx := X.1
  have hb := X.2.1
  have hown := X.2.2.2.1
  have hts := X.2.2.2.2
  have hS : va_S (AR G) s.heap s.heap [] := va_S.rf
  have hl : lv_has ls 3 [(0, .ref (gL G 0)), (1, .int (x)), (2, .int (y))] := hl
  have hk : okR G (u.1, Y) := okR_of hI.1.1 Y
  obtain ⟨⟨kn4, kn10⟩, ⟨kT1, kT61⟩, kP40, kLd, kPar, kEp, kHt, kVf⟩ := id hk
  dsimp only at kT1 kT61 kP40 kLd kPar kEp kHt kVf
  refine lv_aload_n hx hb dX3_votes_0 rfl (lv_at hl 0 rfl) ?_
  refine lv_iconst (v := nI 0) hx hb dX3_votes_1 (by decide) ?_
  refine k_put (v := .int (nI 0)) X hK inX3 rfl tyX3_ok nmX3 hP (wR_D hL _) hS (wR_g G ((u.1, Y)) (k := 0) (by decide)) 0 (by decide) tw_2_135 rfl rfl rfl (Nat.le_of_ble_eq_true rfl) ((u.1, Y)) (rs_th G ((u.1, Y))) dX3_votes_2 (fun H locs hP hS => ?_)
  refine lv_aload_n hx hb dX3_votes_5 rfl (lv_at hl 0 rfl) ?_
  refine lv_iload_n hx hb dX3_votes_6 rfl (lv_at hl 1 rfl) ?_
  refine k_ci (k_runV (As := [.int (x)]) (rest := []) X hK hP (wR_g G ((u.1, Y)) (k := 0) (by decide)) rfl (m3_isNode l G ((u.1, Y)) hL (hk) x) ⟨rfl, rfl⟩ tw_2_229 tw_2_231 tw_0_27 tw_1_6 tw_2_232 ⟨by decide +kernel, by decide +kernel, (by decide +kernel : (parseMethodDescriptor yX3_isNode.desc).map (fun d => d.parameters.length) = some 1)⟩ ⟨Nat.le_of_ble_eq_true rfl, Nat.le_of_ble_eq_true rfl⟩ hl.1 rfl (Nat.le_of_ble_eq_true rfl) ⟨Nat.zero_le _, Nat.zero_le _⟩ dX3_votes_7) hS (fun r_7 u_7 H locs hq_7 hP hS => ?_)
  have hP := k_su hq_7.1 hP
  rcases hq_7.2 with ⟨j_7, hj_7, hx_7, hr_7⟩ | ⟨hz_7, hr_7⟩
  · subst hx_7
    subst hr_7
    replace hj_7 : j_7 < gn G := hj_7
    refine lv_if_eq (tgt := 30) hx hb dX3_votes_10 (by decide) (fun c_10 => ?_) (fun c_10 => ?_)
    · exact absurd c_10 (by decide)
    · refine lv_aload_n hx hb dX3_votes_13 rfl (lv_at hl 0 rfl) ?_
      refine lv_iload_n hx hb dX3_votes_14 rfl (lv_at hl 2 rfl) ?_
      refine k_ci (k_runV (As := [.int (y)]) (rest := []) X hK hP (wR_g G ((u.1, Y)) (k := 0) (by decide)) rfl (m3_isBlock l G ((u.1, Y)) hL (hk) y) ⟨rfl, rfl⟩ tw_3_33 tw_3_35 tw_0_33 tw_1_6 tw_3_36 ⟨by decide +kernel, by decide +kernel, (by decide +kernel : (parseMethodDescriptor yX3_isBlock.desc).map (fun d => d.parameters.length) = some 1)⟩ ⟨Nat.le_of_ble_eq_true rfl, Nat.le_of_ble_eq_true rfl⟩ hl.1 rfl (Nat.le_of_ble_eq_true rfl) ⟨Nat.zero_le _, Nat.zero_le _⟩ dX3_votes_15) hS (fun r_15 u_15 H locs hq_15 hP hS => ?_)
      have hP := k_su hq_15.1 hP
      rcases hq_15.2 with ⟨j_15, hj_15, hx_15, hr_15⟩ | ⟨hz_15, hr_15⟩
      · subst hx_15
        subst hr_15
        replace hj_15 : j_15 < mT u.1 := hj_15
        refine lv_if_eq (tgt := 30) hx hb dX3_votes_18 (by decide) (fun c_18 => ?_) (fun c_18 => ?_)
        · exact absurd c_18 (by decide)
        · refine lv_aload_n hx hb dX3_votes_21 rfl (lv_at hl 0 rfl) ?_
          refine lv_iload_n hx hb dX3_votes_22 rfl (lv_at hl 1 rfl) ?_
          refine lv_iload_n hx hb dX3_votes_23 rfl (lv_at hl 2 rfl) ?_
          refine k_ci (k_runV (As := [.int (nI j_7), .int (nI j_15)]) (rest := []) X hK hP (wR_g G ((u.1, Y)) (k := 0) (by decide)) rfl (m3_votesOf l G ((u.1, Y)) hL (hk) (v := j_7) (b := j_15) (by omega) (by omega)) ⟨rfl, rfl⟩ tw_3_13 tw_3_15 tw_0_29 tw_1_6 tw_3_16 ⟨by decide +kernel, by decide +kernel, (by decide +kernel : (parseMethodDescriptor yX3_votesOf.desc).map (fun d => d.parameters.length) = some 2)⟩ ⟨Nat.le_of_ble_eq_true rfl, Nat.le_of_ble_eq_true rfl⟩ hl.1 rfl (Nat.le_of_ble_eq_true rfl) ⟨Nat.zero_le _, Nat.zero_le _⟩ dX3_votes_24) hS (fun r_24 u_24 H locs hq_24 hP hS => ?_)
          have hP := k_su hq_24.2 hP
          refine k_ti hq_24.1 ?_
          refine lv_goto (tgt := 32) hx hb dX3_votes_27 (by decide) ?_
          exact k_reti X hr hlocks hP hS dX3_votes_32 (rp (w := u) (by simp only [pVotes, ix_some hj_7 (show gn G < 2 ^ 31 by omega), ix_some hj_15 (show mT u.1 < 2 ^ 31 by omega)]; rw [← nVo_n kn10 (inv_rn hI.1 j_7) j_15]) (hY))
      · subst hr_15
        refine lv_if_eq (tgt := 30) hx hb dX3_votes_18 (by decide) (fun c_18 => ?_) (fun c_18 => ?_)
        · refine lv_bipush (v := -2) hx hb dX3_votes_30 (by decide) ?_
          exact k_reti X hr hlocks hP hS dX3_votes_32 (rp (w := u) (by simp only [pVotes, ix_some hj_7 (show gn G < 2 ^ 31 by omega), ix_none hz_15 (show mT u.1 < 2 ^ 31 by omega)] <;> (first | done | rfl | (split <;> first | rfl | (split <;> first | rfl | (split <;> rfl))))) (hY))
        · exact absurd rfl c_18
  · subst hr_7
    refine lv_if_eq (tgt := 30) hx hb dX3_votes_10 (by decide) (fun c_10 => ?_) (fun c_10 => ?_)
    · refine lv_bipush (v := -2) hx hb dX3_votes_30 (by decide) ?_
      exact k_reti X hr hlocks hP hS dX3_votes_32 (rp (w := u) (by simp only [pVotes, ix_none hz_7 (show gn G < 2 ^ 31 by omega)] <;> (first | done | rfl | (split <;> first | rfl | (split <;> first | rfl | (split <;> rfl))))) (hY))
    · exact absurd rfl c_10

set_option maxHeartbeats 4000000 in
set_option maxRecDepth 100000 in
theorem m3_voted (l : Launch) (G : kG) (u : CS) (Y : YS) (hL : layR G) (hI : Inv G u) (hY : InvY (gn G) u.1 Y) (x y : Int32) : KMi l G (AR G) (wR G) yX3_voted cX3_voted 3 (Option.some FieldType.int) ({ frames := 2, cells := 0, slots := 0, locals := 46 }) [.ref (gL G 0), .int (x), .int (y)] (u.1, Y) (fun zz rr => RP (gn G) (pVoted (gn G) u x y) zz rr) := by
  refine K_of (by decide) (Nat.le_of_ble_eq_true rfl) ?_
  intro p e s m below meth c X hr hlocks hnm hK hP ls hl
  have hx := X.1
  have hb := X.2.1
  have hown := X.2.2.2.1
  have hts := X.2.2.2.2
  have hS : va_S (AR G) s.heap s.heap [] := va_S.rf
  have hl : lv_has ls 3 [(0, .ref (gL G 0)), (1, .int (x)), (2, .int (y))] := hl
  have hk : okR G (u.1, Y) := okR_of hI.1.1 Y
  obtain ⟨⟨kn4, kn10⟩, ⟨kT1, kT61⟩, kP40, kLd, kPar, kEp, kHt, kVf⟩ := id hk
  dsimp only at kT1 kT61 kP40 kLd kPar kEp kHt kVf
  refine lv_aload_n hx hb dX3_voted_0 rfl (lv_at hl 0 rfl) ?_
  refine lv_iconst (v := nI 0) hx hb dX3_voted_1 (by decide) ?_
  refine k_put (v := .int (nI 0)) X hK inX3 rfl tyX3_ok nmX3 hP (wR_D hL _) hS (wR_g G ((u.1, Y)) (k := 0) (by decide)) 0 (by decide) tw_2_135 rfl rfl rfl (Nat.le_of_ble_eq_true rfl) ((u.1, Y)) (rs_th G ((u.1, Y))) dX3_voted_2 (fun H locs hP hS => ?_)
  refine lv_aload_n hx hb dX3_voted_5 rfl (lv_at hl 0 rfl) ?_
  refine lv_iload_n hx hb dX3_voted_6 rfl (lv_at hl 1 rfl) ?_
  refine k_ci (k_runV (As := [.int (x)]) (rest := []) X hK hP (wR_g G ((u.1, Y)) (k := 0) (by decide)) rfl (m3_isNode l G ((u.1, Y)) hL (hk) x) ⟨rfl, rfl⟩ tw_2_229 tw_2_231 tw_0_27 tw_1_6 tw_2_232 ⟨by decide +kernel, by decide +kernel, (by decide +kernel : (parseMethodDescriptor yX3_isNode.desc).map (fun d => d.parameters.length) = some 1)⟩ ⟨Nat.le_of_ble_eq_true rfl, Nat.le_of_ble_eq_true rfl⟩ hl.1 rfl (Nat.le_of_ble_eq_true rfl) ⟨Nat.zero_le _, Nat.zero_le _⟩ dX3_voted_7) hS (fun r_7 u_7 H locs hq_7 hP hS => ?_)
  have hP := k_su hq_7.1 hP
  rcases hq_7.2 with ⟨j_7, hj_7, hx_7, hr_7⟩ | ⟨hz_7, hr_7⟩
  · subst hx_7
    subst hr_7
    replace hj_7 : j_7 < gn G := hj_7
    refine lv_if_eq (tgt := 34) hx hb dX3_voted_10 (by decide) (fun c_10 => ?_) (fun c_10 => ?_)
    · exact absurd c_10 (by decide)
    · refine lv_iload_n hx hb dX3_voted_13 rfl (lv_at hl 2 rfl) ?_
      refine k_ci (k_runS (As := [.int (y)]) (rest := []) X hK hP (m3_isEpoch l G (AR G) (wR G) ((u.1, Y)) y) ⟨rfl, rfl⟩ tw_2_222 tw_2_223 tw_1_6 tw_2_224 ⟨by decide +kernel, by decide +kernel, (by decide +kernel : (parseMethodDescriptor yX3_isEpoch.desc).map (fun d => d.parameters.length) = some 1)⟩ ⟨Nat.le_of_ble_eq_true rfl, Nat.le_of_ble_eq_true rfl⟩ hl.1 rfl (Nat.le_of_ble_eq_true rfl) ⟨Nat.zero_le _, Nat.zero_le _⟩ dX3_voted_14) hS (fun r_14 u_14 H locs hq_14 hP hS => ?_)
      have hP := k_su hq_14.1 hP
      rcases hq_14.2 with ⟨j_14, hj_14, hx_14, hr_14⟩ | ⟨hz_14, hr_14⟩
      · subst hx_14
        subst hr_14
        refine lv_if_eq (tgt := 34) hx hb dX3_voted_17 (by decide) (fun c_17 => ?_) (fun c_17 => ?_)
        · exact absurd c_17 (by decide)
        · refine lv_aload_n hx hb dX3_voted_20 rfl (lv_at hl 0 rfl) ?_
          refine k_get (v := .ref (gL G 12)) X hK inX3 rfl hP (wR_g G ((u.1, Y)) (k := 0) (by decide)) 17 (by decide) tw_2_152 rfl dX3_voted_21 ?_
          refine lv_bipush (v := nI 41) hx hb dX3_voted_24 (by decide) ?_
          refine lv_iload_n hx hb dX3_voted_26 rfl (lv_at hl 1 rfl) ?_
          refine lv_imul hx hb dX3_voted_27 ?_
          refine k_ti (pk_mul 41 j_7) ?_
          refine lv_iload_n hx hb dX3_voted_28 rfl (lv_at hl 2 rfl) ?_
          refine lv_iadd hx hb dX3_voted_29 ?_
          refine k_ti (nI_add (41 * j_7) j_14) ?_
          refine k_ild (k := 41 * j_7 + j_14) (v := oI (mVf u.1 j_7 j_14)) X hK hP (wR_g G ((u.1, Y)) (k := 12) (by decide)) (by omega) (by decide) (vf_at _ (show j_14 < 41 by omega)) dX3_voted_30 ?_
          refine lv_goto (tgt := 36) hx hb dX3_voted_31 (by decide) ?_
          exact k_reti X hr hlocks hP hS dX3_voted_36 (rp (w := u) (by simp only [pVoted, ix_some hj_7 (show gn G < 2 ^ 31 by omega), ixE_some hj_14] <;> (first | done | rfl | (split <;> first | rfl | (split <;> first | rfl | (split <;> rfl))))) (hY))
      · subst hr_14
        refine lv_if_eq (tgt := 34) hx hb dX3_voted_17 (by decide) (fun c_17 => ?_) (fun c_17 => ?_)
        · refine lv_bipush (v := -2) hx hb dX3_voted_34 (by decide) ?_
          exact k_reti X hr hlocks hP hS dX3_voted_36 (rp (w := u) (by simp only [pVoted, ix_some hj_7 (show gn G < 2 ^ 31 by omega), ixE_none hz_14] <;> (first | done | rfl | (split <;> first | rfl | (split <;> first | rfl | (split <;> rfl))))) (hY))
        · exact absurd rfl c_17
  · subst hr_7
    refine lv_if_eq (tgt := 34) hx hb dX3_voted_10 (by decide) (fun c_10 => ?_) (fun c_10 => ?_)
    · refine lv_bipush (v := -2) hx hb dX3_voted_34 (by decide) ?_
      exact k_reti X hr hlocks hP hS dX3_voted_36 (rp (w := u) (by simp only [pVoted, ix_none hz_7 (show gn G < 2 ^ 31 by omega)] <;> (first | done | rfl | (split <;> first | rfl | (split <;> first | rfl | (split <;> rfl))))) (hY))
    · exact absurd rfl c_10

set_option maxHeartbeats 4000000 in
set_option maxRecDepth 100000 in
theorem m3_reach (l : Launch) (G : kG) (u : CS) (Y : YS) (hL : layR G) (hI : Inv G u) (hY : InvY (gn G) u.1 Y) (x y : Int32) : KMi l G (AR G) (wR G) yX3_reach cX3_reach 3 (Option.some FieldType.int) ({ frames := 3, cells := 0, slots := 0, locals := 70 }) [.ref (gL G 0), .int (x), .int (y)] (u.1, Y) (fun zz rr => RP (gn G) (pReach (gn G) u x y) zz rr) := by
  refine K_of (by decide) (Nat.le_of_ble_eq_true rfl) ?_
  intro p e s m below meth c X hr hlocks hnm hK hP ls hl
  have hx := X.1
  have hb := X.2.1
  have hown := X.2.2.2.1
  have hts := X.2.2.2.2
  have hS : va_S (AR G) s.heap s.heap [] := va_S.rf
  have hl : lv_has ls 3 [(0, .ref (gL G 0)), (1, .int (x)), (2, .int (y))] := hl
  have hk : okR G (u.1, Y) := okR_of hI.1.1 Y
  obtain ⟨⟨kn4, kn10⟩, ⟨kT1, kT61⟩, kP40, kLd, kPar, kEp, kHt, kVf⟩ := id hk
  dsimp only at kT1 kT61 kP40 kLd kPar kEp kHt kVf
  refine lv_aload_n hx hb dX3_reach_0 rfl (lv_at hl 0 rfl) ?_
  refine lv_iconst (v := nI 0) hx hb dX3_reach_1 (by decide) ?_
  refine k_put (v := .int (nI 0)) X hK inX3 rfl tyX3_ok nmX3 hP (wR_D hL _) hS (wR_g G ((u.1, Y)) (k := 0) (by decide)) 0 (by decide) tw_2_135 rfl rfl rfl (Nat.le_of_ble_eq_true rfl) ((u.1, Y)) (rs_th G ((u.1, Y))) dX3_reach_2 (fun H locs hP hS => ?_)
  refine lv_aload_n hx hb dX3_reach_5 rfl (lv_at hl 0 rfl) ?_
  refine lv_iload_n hx hb dX3_reach_6 rfl (lv_at hl 1 rfl) ?_
  refine k_ci (k_runV (As := [.int (x)]) (rest := []) X hK hP (wR_g G ((u.1, Y)) (k := 0) (by decide)) rfl (m3_isNode l G ((u.1, Y)) hL (hk) x) ⟨rfl, rfl⟩ tw_2_229 tw_2_231 tw_0_27 tw_1_6 tw_2_232 ⟨by decide +kernel, by decide +kernel, (by decide +kernel : (parseMethodDescriptor yX3_isNode.desc).map (fun d => d.parameters.length) = some 1)⟩ ⟨Nat.le_of_ble_eq_true rfl, Nat.le_of_ble_eq_true rfl⟩ hl.1 rfl (Nat.le_of_ble_eq_true rfl) ⟨Nat.zero_le _, Nat.zero_le _⟩ dX3_reach_7) hS (fun r_7 u_7 H locs hq_7 hP hS => ?_)
  have hP := k_su hq_7.1 hP
  rcases hq_7.2 with ⟨j_7, hj_7, hx_7, hr_7⟩ | ⟨hz_7, hr_7⟩
  · subst hx_7
    subst hr_7
    replace hj_7 : j_7 < gn G := hj_7
    refine lv_if_eq (tgt := 25) hx hb dX3_reach_10 (by decide) (fun c_10 => ?_) (fun c_10 => ?_)
    · exact absurd c_10 (by decide)
    · refine lv_iload_n hx hb dX3_reach_13 rfl (lv_at hl 2 rfl) ?_
      refine lv_i2l (v := y.toInt64) hx hb dX3_reach_14 rfl ?_
      refine lv_lconst (v := 0) hx hb dX3_reach_15 rfl ?_
      refine lv_ldc2 (v := 2) hx hb hown (hts _ tw_3_98) dX3_reach_16 ?_
      refine k_ci (k_runS (As := [.long (y.toInt64), .long (0), .long (2)]) (rest := []) X hK hP (m3_in l G (AR G) (wR G) ((u.1, Y)) y.toInt64 0 2) ⟨rfl, rfl⟩ tw_2_226 tw_2_227 tw_1_6 tw_2_228 ⟨by decide +kernel, by decide +kernel, (by decide +kernel : (parseMethodDescriptor yX3_in.desc).map (fun d => d.parameters.length) = some 3)⟩ ⟨Nat.le_of_ble_eq_true rfl, Nat.le_of_ble_eq_true rfl⟩ hl.1 rfl (Nat.le_of_ble_eq_true rfl) ⟨Nat.zero_le _, Nat.zero_le _⟩ dX3_reach_19) hS (fun r_19 u_19 H locs hq_19 hP hS => ?_)
      have hP := k_su hq_19.2 hP
      have hq2_19 : r_19 = bI (decide (lN 0 ≤ y.toInt64) && decide (y.toInt64 ≤ lN 2)) := by
        rw [hq_19.1, show 2 = lN 2 from rfl]; rfl
      rcases in_cases y (a := 0) (k := 2) (by decide) (by omega) with ⟨j_19, hj_19, hx_19, hr_19⟩ | ⟨hz_19, hr_19⟩
      · rw [hr_19] at hq2_19
        subst hx_19
        refine k_ti (y := 1) hq2_19 ?_
        refine lv_if_ne (tgt := 28) hx hb dX3_reach_22 (by decide) (fun c_22 => ?_) (fun c_22 => ?_)
        · refine lv_aload_n hx hb dX3_reach_28 rfl (lv_at hl 0 rfl) ?_
          refine lv_iload_n hx hb dX3_reach_29 rfl (lv_at hl 1 rfl) ?_
          refine k_cv (k_runV (As := [.int (nI j_7)]) (rest := []) X hK hP (wR_g G ((u.1, Y)) (k := 0) (by decide)) rfl (m3_workOut l G ((u.1, Y)) hL (hk) (v := j_7) (by omega) (xCh u.2) (hI.1).2.2.2.2.2.2.2.2.1 (inv_rn hI.1 _)) ⟨rfl, rfl⟩ tw_3_6 tw_3_8 tw_0_28 tw_1_6 tw_3_9 ⟨by decide +kernel, by decide +kernel, (by decide +kernel : (parseMethodDescriptor yX3_workOut.desc).map (fun d => d.parameters.length) = some 1)⟩ ⟨Nat.le_of_ble_eq_true rfl, Nat.le_of_ble_eq_true rfl⟩ hl.1 rfl (Nat.le_of_ble_eq_true rfl) ⟨Nat.zero_le _, Nat.zero_le _⟩ dX3_reach_30) hS (fun u_30 H locs hq_30 hP hS => ?_)
          obtain ⟨M_30, Y_30⟩ := u_30
          obtain ⟨hM_30, h4_30, hD_30, hR_30⟩ := hq_30
          dsimp only at hM_30 h4_30 hD_30 hR_30
          subst hM_30
          obtain ⟨eK, eN, eF, eT, eH⟩ := DV_uniq kPar hD_30 (hI.1.2.2.2.2.2.2.2.2.2.2 j_7 (by omega)).1
          have hY2 : InvY (gn G) u.1 Y_30 := InvY_Y hY h4_30.1 h4_30.2.1
          refine lv_iload_n hx hb dX3_reach_33 rfl (lv_at hl 2 rfl) ?_
          refine lv_if_ne (tgt := 44) hx hb dX3_reach_34 (by decide) (fun c_34 => ?_) (fun c_34 => ?_)
          · have c_34 : j_19 ≠ 0 := czNe c_34 (by omega) (by omega)
            refine lv_iload_n hx hb dX3_reach_44 rfl (lv_at hl 2 rfl) ?_
            refine lv_iconst (v := nI 1) hx hb dX3_reach_45 (by decide) ?_
            refine lv_icmp_ne (tgt := 56) hx hb dX3_reach_46 (by decide) (fun c_46 => ?_) (fun c_46 => ?_)
            · have c_46 : j_19 ≠ 1 := cNe c_46 (by omega) (by omega)
              refine lv_aload_n hx hb dX3_reach_56 rfl (lv_at hl 0 rfl) ?_
              refine k_get (v := .int (nI (yHi Y_30))) X hK inX3 rfl hP (wR_g G ((u.1, Y_30)) (k := 0) (by decide)) 24 (by decide) tw_2_159 rfl dX3_reach_57 ?_
              exact k_reti X hr hlocks hP hS dX3_reach_60 (rp (w := u) (by simp only [pReach, ix_some hj_7 (show gn G < 2 ^ 31 by omega), (ix_some (show j_19 < 3 by omega) (show 3 < 2 ^ 31 by decide)).trans (congrArg some (show j_19 = 2 by omega))]; rw [eH]) (hY2))
            · have c_46 : j_19 = 1 := cEq c_46 (by omega) (by omega)
              refine lv_aload_n hx hb dX3_reach_49 rfl (lv_at hl 0 rfl) ?_
              refine k_get (v := .int (nI (yTp Y_30))) X hK inX3 rfl hP (wR_g G ((u.1, Y_30)) (k := 0) (by decide)) 23 (by decide) tw_2_158 rfl dX3_reach_50 ?_
              refine lv_goto (tgt := 60) hx hb dX3_reach_53 (by decide) ?_
              exact k_reti X hr hlocks hP hS dX3_reach_60 (rp (w := u) (by simp only [pReach, ix_some hj_7 (show gn G < 2 ^ 31 by omega), (ix_some (show j_19 < 3 by omega) (show 3 < 2 ^ 31 by decide)).trans (congrArg some (show j_19 = 1 by omega))]; rw [eT]) (hY2))
          · have c_34 : j_19 = 0 := czEq c_34 (by omega) (by omega)
            refine lv_aload_n hx hb dX3_reach_37 rfl (lv_at hl 0 rfl) ?_
            refine k_get (v := .int (nI (yRc Y_30))) X hK inX3 rfl hP (wR_g G ((u.1, Y_30)) (k := 0) (by decide)) 22 (by decide) tw_2_157 rfl dX3_reach_38 ?_
            refine lv_goto (tgt := 60) hx hb dX3_reach_41 (by decide) ?_
            exact k_reti X hr hlocks hP hS dX3_reach_60 (rp (w := u) (by simp only [pReach, ix_some hj_7 (show gn G < 2 ^ 31 by omega), (ix_some (show j_19 < 3 by omega) (show 3 < 2 ^ 31 by decide)).trans (congrArg some (show j_19 = 0 by omega))]; rw [hR_30, eT]) (hY2))
        · exact absurd c_22 (by decide)
      · rw [hr_19] at hq2_19
        refine k_ti (y := 0) hq2_19 ?_
        refine lv_if_ne (tgt := 28) hx hb dX3_reach_22 (by decide) (fun c_22 => ?_) (fun c_22 => ?_)
        · exact absurd rfl c_22
        · refine lv_bipush (v := -2) hx hb dX3_reach_25 (by decide) ?_
          exact k_reti X hr hlocks hP hS dX3_reach_27 (rp (w := u) (by simp only [pReach, ix_some hj_7 (show gn G < 2 ^ 31 by omega), ix_none (fun j hj => hz_19 j ⟨Nat.zero_le _, by omega⟩) (show 3 < 2 ^ 31 by decide)] <;> (first | done | rfl | (split <;> first | rfl | (split <;> first | rfl | (split <;> rfl))))) (hY))
  · subst hr_7
    refine lv_if_eq (tgt := 25) hx hb dX3_reach_10 (by decide) (fun c_10 => ?_) (fun c_10 => ?_)
    · refine lv_bipush (v := -2) hx hb dX3_reach_25 (by decide) ?_
      exact k_reti X hr hlocks hP hS dX3_reach_27 (rp (w := u) (by simp only [pReach, ix_none hz_7 (show gn G < 2 ^ 31 by omega)] <;> (first | done | rfl | (split <;> first | rfl | (split <;> first | rfl | (split <;> rfl))))) (hY))
    · exact absurd rfl c_10
