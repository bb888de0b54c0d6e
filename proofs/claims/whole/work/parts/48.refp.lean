def LK0 (n : Nat) (w : CS) (r : RS) : Prop := r.1 = w.1 ∧ InvY n w.1 r.2
set_option maxHeartbeats 4000000 in
set_option maxRecDepth 100000 in
theorem m3_look (l : Launch) (G : kG) (u : CS) (Y : YS) (hL : layR G) (hI : Inv0 G u) (hY : InvY (gn G) u.1 Y) {v : Nat} (hv : v < gn G) : KMv l G (AR G) (wR G) yX3_look cX3_look 4 (Option.none : Option FieldType) ({ frames := 3, cells := 0, slots := 0, locals := 70 }) [.ref (gL G 0), .int (nI v)] (u.1, Y) (fun r => LK (gn G) (cLook (gn G) u v) Y r) := by
  refine K_of (by decide) (Nat.le_of_ble_eq_true rfl) ?_
  intro p e s m below meth c X hr hlocks hnm hK hP ls hl
  have hx := X.1
  have hb := X.2.1
  have hown := X.2.2.2.1
  have hts := X.2.2.2.2
  have hS : va_S (AR G) s.heap s.heap [] := va_S.rf
  have hl : lv_has ls 4 [(0, .ref (gL G 0)), (1, .int (nI v))] := hl
  have hk : okR G (u.1, Y) := okR_of hI.1 Y
  obtain ⟨⟨kn4, kn10⟩, ⟨kT1, kT61⟩, kP40, kLd, kPar, kEp, kHt, kVf⟩ := id hk
  dsimp only at kT1 kT61 kP40 kLd kPar kEp kHt kVf
  refine lv_aload_n hx hb dX3_look_0 rfl (lv_at hl 0 rfl) ?_
  refine k_get (v := .ref (gL G 1)) X hK inX3 rfl hP (wR_g G ((u.1, Y)) (k := 0) (by decide)) 2 (by decide) tw_2_137 rfl dX3_look_1 ?_
  refine lv_iload_n hx hb dX3_look_4 rfl (lv_at hl 1 rfl) ?_
  refine k_zld (k := v) (v := bI (mFa u.1 v)) X hK hP (wR_g G ((u.1, Y)) (k := 1) (by decide)) (by omega) (by decide) rfl dX3_look_5 ?_
  refine lv_if_ne (tgt := 34) hx hb dX3_look_6 (by decide) (fun c_6 => ?_) (fun c_6 => ?_)
  · have c_6 : (mFa u.1 v) = true := (bI_ne0 _).mp c_6
    have hc0 : cCh u v = 0 := cCh_fa c_6
    exact k_retv X hr hlocks hP hS dX3_look_34 (lk_of (by rw [look_id hc0]) (by rw [look_id hc0]; exact hY) rfl)
  · have c_6 : (mFa u.1 v) = false := (bI_eq0 _).mp c_6
    refine lv_aload_n hx hb dX3_look_9 rfl (lv_at hl 0 rfl) ?_
    refine k_get (v := .int (nI (mP u.1))) X hK inX3 rfl hP (wR_g G ((u.1, Y)) (k := 0) (by decide)) 5 (by decide) tw_2_140 rfl dX3_look_10 ?_
    refine lv_if_eq (tgt := 34) hx hb dX3_look_13 (by decide) (fun c_13 => ?_) (fun c_13 => ?_)
    · have c_13 : (mP u.1) = 0 := czEq c_13 (by omega) (by omega)
      have hc0 : cCh u v = 0 := cCh_fc0 (fc_P0 hI v c_13)
      exact k_retv X hr hlocks hP hS dX3_look_34 (lk_of (by rw [look_id hc0]) (by rw [look_id hc0]; exact hY) rfl)
    · have c_13 : (mP u.1) ≠ 0 := czNe c_13 (by omega) (by omega)
      refine lv_aload_n hx hb dX3_look_16 rfl (lv_at hl 0 rfl) ?_
      refine k_get (v := .ref (gL G 12)) X hK inX3 rfl hP (wR_g G ((u.1, Y)) (k := 0) (by decide)) 17 (by decide) tw_2_152 rfl dX3_look_17 ?_
      refine lv_bipush (v := nI 41) hx hb dX3_look_20 (by decide) ?_
      refine lv_iload_n hx hb dX3_look_22 rfl (lv_at hl 1 rfl) ?_
      refine lv_imul hx hb dX3_look_23 ?_
      refine k_ti (pk_mul 41 v) ?_
      refine lv_aload_n hx hb dX3_look_24 rfl (lv_at hl 0 rfl) ?_
      refine k_get (v := .int (nI (mP u.1))) X hK inX3 rfl hP (wR_g G ((u.1, Y)) (k := 0) (by decide)) 5 (by decide) tw_2_140 rfl dX3_look_25 ?_
      refine lv_iadd hx hb dX3_look_28 ?_
      refine k_ti (nI_add (41 * v) (mP u.1)) ?_
      refine k_ild (k := 41 * v + (mP u.1)) (v := oI (mVf u.1 v (mP u.1))) X hK hP (wR_g G ((u.1, Y)) (k := 12) (by decide)) (by omega) (by decide) (vf_at _ (show mP u.1 < 41 by omega)) dX3_look_29 ?_
      refine lv_iconst (v := -1) hx hb dX3_look_30 (by decide) ?_
      refine lv_icmp_eq (tgt := 35) hx hb dX3_look_31 (by decide) (fun c_31 => ?_) (fun c_31 => ?_)
      · have c_31 : mVf u.1 v (mP u.1) = 0 := (oI_m1 (by have := kVf v (mP u.1); omega)).mp c_31
        refine lv_iconst (v := -1) hx hb dX3_look_35 (by decide) ?_
        refine k_ti (show (-1 : Int32) = oI 0 from rfl) ?_
        refine lv_istore_n (lv' := [(2, .int (oI 0)), (0, .ref (gL G 0)), (1, .int (nI v))]) hx hb dX3_look_36 rfl hl (by decide) rfl (fun ls hl => ?_)
        refine lv_iconst (v := nI 1) hx hb dX3_look_37 (by decide) ?_
        refine lv_istore_n (lv' := [(3, .int (nI 1)), (2, .int (oI 0)), (0, .ref (gL G 0)), (1, .int (nI v))]) hx hb dX3_look_38 rfl hl (by decide) rfl (fun ls hl => ?_)
        have loop_39 : ∀ (d_39 : Nat) (b : Nat) (f : Nat), mT u.1 - b = d_39 → (1 ≤ b) → (b ≤ mT u.1) → (fstI u.1 Y v b f) → ∀ (H : Heap) (locs : List Loc) (ls : Array Slot), va_P (gD G) vwCl ((wR G) ((u.1, Y))) H → va_S (AR G) s.heap H locs → lv_has ls 4 [(0, .ref (gL G 0)), (1, .int (nI v)), (2, .int (oI f)), (3, .int (nI b))] → W p l e ({ frames := 3, cells := 0, slots := 0, locals := 70 } : Room) s m ([.ref (gL G 0), .int (nI v)] : List Value).toArray below meth c H locs 0 0 (MQ below (va_Qv (fun r => LK (gn G) (cLook (gn G) u v) Y r) (KB G (wR G)) (AR G)) ([.ref (gL G 0), .int (nI v)] : List Value).toArray s 0 0 (AR G)) (F0 m 39 ls []) := by
          intro d_39
          induction d_39 using Nat.strongRecOn with
          | ind d_39 ih_39 =>
            intro b f hd_39 hb1 hbT hfst H locs ls hP hS hl
            have hfb : f ≤ 60 := by
              rcases hfst with h | h
              · omega
              · omega
            have hEb := kEp b
            refine lv_iload_n hx hb dX3_look_39 rfl (lv_at hl 3 rfl) ?_
            refine lv_aload_n hx hb dX3_look_40 rfl (lv_at hl 0 rfl) ?_
            refine k_get (v := .int (nI (mT u.1))) X hK inX3 rfl hP (wR_g G ((u.1, Y)) (k := 0) (by decide)) 6 (by decide) tw_2_141 rfl dX3_look_41 ?_
            refine lv_icmp_ge (tgt := 116) hx hb dX3_look_44 (by decide) (fun c_44 => ?_) (fun c_44 => ?_)
            · have c_44 : (mT u.1) ≤ b := cLe c_44 (by omega) (by omega)
              refine lv_iload_n hx hb dX3_look_116 rfl (lv_at hl 2 rfl) ?_
              refine lv_iconst (v := -1) hx hb dX3_look_117 (by decide) ?_
              refine lv_icmp_ne (tgt := 122) hx hb dX3_look_118 (by decide) (fun c_118 => ?_) (fun c_118 => ?_)
              · have hf0 : 0 < f := Nat.pos_of_ne_zero fun h => c_118 (by rw [h]; rfl)
                refine lv_aload_n hx hb dX3_look_122 rfl (lv_at hl 0 rfl) ?_
                refine lv_iload_n hx hb dX3_look_123 rfl (lv_at hl 1 rfl) ?_
                refine k_cv (k_runV (As := [.int (nI v)]) (rest := []) X hK hP (wR_g G ((u.1, Y)) (k := 0) (by decide)) rfl (m3_workOut l G ((u.1, Y)) hL (hk) (v := v) (by omega) (xCh u.2) (hI).2.2.2.2.2.2.2.2.1 (inv_rn hI _)) ⟨rfl, rfl⟩ tw_3_6 tw_3_8 tw_0_28 tw_1_6 tw_3_9 ⟨by decide +kernel, by decide +kernel, (by decide +kernel : (parseMethodDescriptor yX3_workOut.desc).map (fun d => d.parameters.length) = some 1)⟩ ⟨Nat.le_of_ble_eq_true rfl, Nat.le_of_ble_eq_true rfl⟩ hl.1 rfl (Nat.le_of_ble_eq_true rfl) ⟨Nat.zero_le _, Nat.zero_le _⟩ dX3_look_124) hS (fun u_124 H locs hq_124 hP hS => ?_)
                obtain ⟨M_124, Y_124⟩ := u_124
                obtain ⟨hM_124, h4_124, hD_124, hR_124⟩ := hq_124
                dsimp only at hM_124 h4_124 hD_124 hR_124
                subst hM_124
                obtain ⟨eK, eN, eF, eT, eH⟩ := DV_uniq kPar hD_124 (hI.2.2.2.2.2.2.2.2.2.2 v hv).1
                rw [eT] at hR_124
                have hTp := hI.1.2.2.2.2.2.2.2.2.2.2.2.1 v
                have hHtT := kHt (xTp u.2 v)
                have hFf : mFc u.1 v (mP u.1) = f := fst_end hI hY hv hfst (by omega)
                have hfl : f < mT u.1 := hFf ▸ hI.1.2.2.2.2.2.2.2.2.2.1 v (mP u.1)
                have hpf := kPar f hf0
                have hHtP := kHt (mPar u.1 f)
                refine lv_aload_n hx hb dX3_look_127 rfl (lv_at hl 0 rfl) ?_
                refine k_get (v := .ref (gL G 13)) X hK inX3 rfl hP (wR_g G ((u.1, Y_124)) (k := 0) (by decide)) 19 (by decide) tw_2_154 rfl dX3_look_128 ?_
                refine lv_iload_n hx hb dX3_look_131 rfl (lv_at hl 2 rfl) ?_
                refine k_ti (oI_pos hf0).symm ?_
                refine k_zld (k := f) (v := bI ((yKn Y_124) f)) X hK hP (wR_g G ((u.1, Y_124)) (k := 13) (by decide)) (by omega) (by decide) rfl dX3_look_132 ?_
                refine lv_if_eq (tgt := 221) hx hb dX3_look_133 (by decide) (fun c_133 => ?_) (fun c_133 => ?_)
                · have c_133 : ((yKn Y_124) f) = false := (bI_eq0 _).mp c_133
                  have hc0 : cCh u v = 0 := cCh_no hFf (fun ⟨q1, q2, q3⟩ => by
                    first
                    | (rw [← eK f hfl, c_133] at q1; cases q1; done)
                    | (rw [← eN _ (by omega), c_147] at q2; cases q2; done)
                    | (exact c_165 (by rw [hR_124]; exact q3)))
                  exact k_retv X hr hlocks hP hS dX3_look_221 (lk_of (by rw [look_id hc0]) (by rw [look_id hc0]; exact InvY_Y hY h4_124.1 h4_124.2.1) h4_124.2.2.1)
                · have c_133 : ((yKn Y_124) f) = true := (bI_ne0 _).mp c_133
                  refine lv_aload_n hx hb dX3_look_136 rfl (lv_at hl 0 rfl) ?_
                  refine k_get (v := .ref (gL G 14)) X hK inX3 rfl hP (wR_g G ((u.1, Y_124)) (k := 0) (by decide)) 20 (by decide) tw_2_155 rfl dX3_look_137 ?_
                  refine lv_aload_n hx hb dX3_look_140 rfl (lv_at hl 0 rfl) ?_
                  refine k_get (v := .ref (gL G 4)) X hK inX3 rfl hP (wR_g G ((u.1, Y_124)) (k := 0) (by decide)) 7 (by decide) tw_2_142 rfl dX3_look_141 ?_
                  refine lv_iload_n hx hb dX3_look_144 rfl (lv_at hl 2 rfl) ?_
                  refine k_ti (oI_pos hf0).symm ?_
                  refine k_ild (k := f) (v := eP (mPar u.1) f) X hK hP (wR_g G ((u.1, Y_124)) (k := 4) (by decide)) (by omega) (by decide) rfl dX3_look_145 ?_
                  refine k_ti (eP_pos hf0) ?_
                  refine k_zld (k := (mPar u.1 f)) (v := bI ((yNo Y_124) (mPar u.1 f))) X hK hP (wR_g G ((u.1, Y_124)) (k := 14) (by decide)) (by omega) (by decide) rfl dX3_look_146 ?_
                  refine lv_if_eq (tgt := 221) hx hb dX3_look_147 (by decide) (fun c_147 => ?_) (fun c_147 => ?_)
                  · have c_147 : ((yNo Y_124) (mPar u.1 f)) = false := (bI_eq0 _).mp c_147
                    have hc0 : cCh u v = 0 := cCh_no hFf (fun ⟨q1, q2, q3⟩ => by
                      first
                      | (rw [← eK f hfl, c_133] at q1; cases q1; done)
                      | (rw [← eN _ (by omega), c_147] at q2; cases q2; done)
                      | (exact c_165 (by rw [hR_124]; exact q3)))
                    exact k_retv X hr hlocks hP hS dX3_look_221 (lk_of (by rw [look_id hc0]) (by rw [look_id hc0]; exact InvY_Y hY h4_124.1 h4_124.2.1) h4_124.2.2.1)
                  · have c_147 : ((yNo Y_124) (mPar u.1 f)) = true := (bI_ne0 _).mp c_147
                    refine lv_aload_n hx hb dX3_look_150 rfl (lv_at hl 0 rfl) ?_
                    refine k_get (v := .ref (gL G 7)) X hK inX3 rfl hP (wR_g G ((u.1, Y_124)) (k := 0) (by decide)) 10 (by decide) tw_2_145 rfl dX3_look_151 ?_
                    refine lv_aload_n hx hb dX3_look_154 rfl (lv_at hl 0 rfl) ?_
                    refine k_get (v := .ref (gL G 4)) X hK inX3 rfl hP (wR_g G ((u.1, Y_124)) (k := 0) (by decide)) 7 (by decide) tw_2_142 rfl dX3_look_155 ?_
                    refine lv_iload_n hx hb dX3_look_158 rfl (lv_at hl 2 rfl) ?_
                    refine k_ti (oI_pos hf0).symm ?_
                    refine k_ild (k := f) (v := eP (mPar u.1) f) X hK hP (wR_g G ((u.1, Y_124)) (k := 4) (by decide)) (by omega) (by decide) rfl dX3_look_159 ?_
                    refine k_ti (eP_pos hf0) ?_
                    refine k_ild (k := (mPar u.1 f)) (v := nI (mHt u.1 (mPar u.1 f))) X hK hP (wR_g G ((u.1, Y_124)) (k := 7) (by decide)) (by omega) (by decide) rfl dX3_look_160 ?_
                    refine lv_aload_n hx hb dX3_look_161 rfl (lv_at hl 0 rfl) ?_
                    refine k_get (v := .int (nI (yRc Y_124))) X hK inX3 rfl hP (wR_g G ((u.1, Y_124)) (k := 0) (by decide)) 22 (by decide) tw_2_157 rfl dX3_look_162 ?_
                    refine lv_icmp_ne (tgt := 221) hx hb dX3_look_165 (by decide) (fun c_165 => ?_) (fun c_165 => ?_)
                    · have c_165 : (mHt u.1 (mPar u.1 f)) ≠ (yRc Y_124) := cNe c_165 (by omega) (by omega)
                      have hc0 : cCh u v = 0 := cCh_no hFf (fun ⟨q1, q2, q3⟩ => by
                        first
                        | (rw [← eK f hfl, c_133] at q1; cases q1; done)
                        | (rw [← eN _ (by omega), c_147] at q2; cases q2; done)
                        | (exact c_165 (by rw [hR_124]; exact q3)))
                      exact k_retv X hr hlocks hP hS dX3_look_221 (lk_of (by rw [look_id hc0]) (by rw [look_id hc0]; exact InvY_Y hY h4_124.1 h4_124.2.1) h4_124.2.2.1)
                    · have c_165 : (mHt u.1 (mPar u.1 f)) = (yRc Y_124) := cEq c_165 (by omega) (by omega)
                      have hce : cCh u v = f := cCh_yes c_6 hFf hf0 c_31 (by rw [← eK f hfl]; exact c_133) (by rw [← eN _ (by omega)]; exact c_147) (by rw [← hR_124]; exact c_165)
                      refine lv_aload_n hx hb dX3_look_168 rfl (lv_at hl 0 rfl) ?_
                      refine k_get (v := .ref (gL G 12)) X hK inX3 rfl hP (wR_g G ((u.1, Y_124)) (k := 0) (by decide)) 17 (by decide) tw_2_152 rfl dX3_look_169 ?_
                      refine lv_bipush (v := nI 41) hx hb dX3_look_172 (by decide) ?_
                      refine lv_iload_n hx hb dX3_look_174 rfl (lv_at hl 1 rfl) ?_
                      refine lv_imul hx hb dX3_look_175 ?_
                      refine k_ti (pk_mul 41 v) ?_
                      refine lv_aload_n hx hb dX3_look_176 rfl (lv_at hl 0 rfl) ?_
                      refine k_get (v := .int (nI (mP u.1))) X hK inX3 rfl hP (wR_g G ((u.1, Y_124)) (k := 0) (by decide)) 5 (by decide) tw_2_140 rfl dX3_look_177 ?_
                      refine lv_iadd hx hb dX3_look_180 ?_
                      refine k_ti (nI_add (41 * v) (mP u.1)) ?_
                      refine lv_iload_n hx hb dX3_look_181 rfl (lv_at hl 2 rfl) ?_
                      refine k_ist (k := 41 * v + (mP u.1)) (x := oI f) X hK hP (wR_D hL _) hS (wR_g G ((u.1, Y_124)) (k := 12) (by decide)) (by omega) (by decide) ((sVf u.1 (up2 (mVf u.1) v (mP u.1) f), Y_124)) (rs_Vf G ((u.1, Y_124)) (v := v) (e := (mP u.1)) (by omega) f) dX3_look_182 (fun H locs hP hS => ?_)
                      refine lv_aload_n hx hb dX3_look_183 rfl (lv_at hl 0 rfl) ?_
                      refine lv_dup hx hb dX3_look_184 rfl ?_
                      refine k_get (v := .int (nI (mG u.1))) X hK inX3 rfl hP (wR_g G ((sVf u.1 (up2 (mVf u.1) v (mP u.1) f), Y_124)) (k := 0) (by decide)) 18 (by decide) tw_2_153 rfl dX3_look_185 ?_
                      refine lv_iconst (v := nI 1) hx hb dX3_look_188 (by decide) ?_
                      refine lv_iadd hx hb dX3_look_189 ?_
                      refine k_ti (nI_add (mG u.1) 1) ?_
                      refine k_put (v := .int (nI ((mG u.1) + 1))) X hK inX3 rfl tyX3_ok nmX3 hP (wR_D hL _) hS (wR_g G ((sVf u.1 (up2 (mVf u.1) v (mP u.1) f), Y_124)) (k := 0) (by decide)) 18 (by decide) tw_2_153 rfl rfl rfl (Nat.le_of_ble_eq_true rfl) ((sG (sVf u.1 (up2 (mVf u.1) v (mP u.1) f)) ((mG u.1) + 1), Y_124)) (rs_G G ((sVf u.1 (up2 (mVf u.1) v (mP u.1) f), Y_124)) ((mG u.1) + 1)) dX3_look_190 (fun H locs hP hS => ?_)
                      refine lv_aload_n hx hb dX3_look_193 rfl (lv_at hl 0 rfl) ?_
                      refine k_get (v := .ref (gL G 9)) X hK inX3 rfl hP (wR_g G ((sG (sVf u.1 (up2 (mVf u.1) v (mP u.1) f)) ((mG u.1) + 1), Y_124)) (k := 0) (by decide)) 12 (by decide) tw_2_147 rfl dX3_look_194 ?_
                      refine lv_bipush (v := nI 10) hx hb dX3_look_197 (by decide) ?_
                      refine lv_iload_n hx hb dX3_look_199 rfl (lv_at hl 2 rfl) ?_
                      refine k_ti (oI_pos hf0).symm ?_
                      refine lv_iload_n hx hb dX3_look_200 rfl (lv_at hl 1 rfl) ?_
                      refine k_ci (k_runS (As := [.int (nI f), .int (nI v)]) (rest := [.int (nI 10), .ref (gL G 9)]) X hK hP (m3_letter l G (AR G) (wR G) ((sG (sVf u.1 (up2 (mVf u.1) v (mP u.1) f)) ((mG u.1) + 1), Y_124)) f v) ⟨rfl, rfl⟩ tw_3_10 tw_3_11 tw_1_6 tw_3_12 ⟨by decide +kernel, by decide +kernel, (by decide +kernel : (parseMethodDescriptor yX3_letter.desc).map (fun d => d.parameters.length) = some 2)⟩ ⟨Nat.le_of_ble_eq_true rfl, Nat.le_of_ble_eq_true rfl⟩ hl.1 rfl (Nat.le_of_ble_eq_true rfl) ⟨Nat.zero_le _, Nat.zero_le _⟩ dX3_look_201) hS (fun r_201 u_201 H locs hq_201 hP hS => ?_)
                      have hP := k_su hq_201.2 hP
                      refine k_ti hq_201.1 ?_
                      refine lv_imul hx hb dX3_look_204 ?_
                      refine k_ti (pk_mul 10 (11 * f + 1 + v)) ?_
                      refine lv_iload_n hx hb dX3_look_205 rfl (lv_at hl 1 rfl) ?_
                      refine lv_iadd hx hb dX3_look_206 ?_
                      refine k_ti (nI_add (10 * (11 * f + 1 + v)) v) ?_
                      refine k_zld (k := 10 * (11 * f + 1 + v) + v) (v := bI (mHs u.1 (11 * f + 1 + v) v)) X hK hP (wR_g G ((sG (sVf u.1 (up2 (mVf u.1) v (mP u.1) f)) ((mG u.1) + 1), Y_124)) (k := 9) (by decide)) (by omega) (by decide) (f10_at _ (show v < 10 by omega)) dX3_look_207 ?_
                      refine lv_if_ne (tgt := 221) hx hb dX3_look_208 (by decide) (fun c_208 => ?_) (fun c_208 => ?_)
                      · have c_208 : (mHs u.1 (11 * f + 1 + v) v) = true := (bI_ne0 _).mp c_208
                        refine absurd c_31 ?_
                        have h6 := hI.2.2.2.2.2.2.1 v f hv c_6 c_208
                        have h7 := (hI.2.2.2.2.1.1 v (mP u.1) (by omega)).1
                        rw [hFf] at h7
                        rw [h7] at h6
                        exact h6
                      · have c_208 : (mHs u.1 (11 * f + 1 + v) v) = false := (bI_eq0 _).mp c_208
                        have hkv : okR G ((sG (sVf u.1 (up2 (mVf u.1) v (mP u.1) f)) ((mG u.1) + 1), Y_124)) := by
                          refine ⟨⟨kn4, kn10⟩, ⟨kT1, kT61⟩, kP40, kLd, kPar, kEp, kHt, fun v1 e1 => ?_⟩
                          show up2 (mVf u.1) v (mP u.1) f v1 e1 ≤ 60
                          unfold up2; split
                          · exact hfb
                          · exact kVf v1 e1
                        refine lv_aload_n hx hb dX3_look_211 rfl (lv_at hl 0 rfl) ?_
                        refine lv_iload_n hx hb dX3_look_212 rfl (lv_at hl 1 rfl) ?_
                        refine lv_iload_n hx hb dX3_look_213 rfl (lv_at hl 2 rfl) ?_
                        refine k_ti (oI_pos hf0).symm ?_
                        refine lv_iload_n hx hb dX3_look_214 rfl (lv_at hl 1 rfl) ?_
                        refine k_ci (k_runS (As := [.int (nI f), .int (nI v)]) (rest := [.int (nI v), .ref (gL G 0)]) X hK hP (m3_letter l G (AR G) (wR G) ((sG (sVf u.1 (up2 (mVf u.1) v (mP u.1) f)) ((mG u.1) + 1), Y_124)) f v) ⟨rfl, rfl⟩ tw_3_10 tw_3_11 tw_1_6 tw_3_12 ⟨by decide +kernel, by decide +kernel, (by decide +kernel : (parseMethodDescriptor yX3_letter.desc).map (fun d => d.parameters.length) = some 2)⟩ ⟨Nat.le_of_ble_eq_true rfl, Nat.le_of_ble_eq_true rfl⟩ hl.1 rfl (Nat.le_of_ble_eq_true rfl) ⟨Nat.zero_le _, Nat.zero_le _⟩ dX3_look_215) hS (fun r_215 u_215 H locs hq_215 hP hS => ?_)
                        have hP := k_su hq_215.2 hP
                        refine k_ti hq_215.1 ?_
                        refine k_cv (k_runV (As := [.int (nI v), .int (nI (11 * f + 1 + v))]) (rest := []) X hK hP (wR_g G ((sG (sVf u.1 (up2 (mVf u.1) v (mP u.1) f)) ((mG u.1) + 1), Y_124)) (k := 0) (by decide)) rfl (m3_gain l G ((sG (sVf u.1 (up2 (mVf u.1) v (mP u.1) f)) ((mG u.1) + 1), Y_124)) hL (hkv) (v := v) (l0 := (11 * f + 1 + v)) (by omega) (by omega)) ⟨rfl, rfl⟩ tw_3_21 tw_3_23 tw_0_31 tw_1_6 tw_3_24 ⟨by decide +kernel, by decide +kernel, (by decide +kernel : (parseMethodDescriptor yX3_gain.desc).map (fun d => d.parameters.length) = some 2)⟩ ⟨Nat.le_of_ble_eq_true rfl, Nat.le_of_ble_eq_true rfl⟩ hl.1 rfl (Nat.le_of_ble_eq_true rfl) ⟨Nat.zero_le _, Nat.zero_le _⟩ dX3_look_218) hS (fun u_218 H locs hq_218 hP hS => ?_)
                        have hP := k_su hq_218 hP
                        exact k_retv X hr hlocks hP hS dX3_look_221 (lk_of (by rw [cLook, hce, if_neg (Nat.ne_of_gt hf0), vote_gn kn10 hI.2.2.1 c_6]) (by rw [cLook, hce, if_neg (Nat.ne_of_gt hf0)]; exact InvY_vote (InvY_Y hY h4_124.1 h4_124.2.1) (by omega)) (by rw [gnY_tc]; exact h4_124.2.2.1))
              · have hf0 : f = 0 := (oI_m1 (by omega)).mp c_118
                have hc0 : cCh u v = 0 := cCh_fc0 (by rw [fst_end hI hY hv hfst (by omega), hf0])
                exact k_retv X hr hlocks hP hS dX3_look_121 (lk_of (by rw [look_id hc0]) (by rw [look_id hc0]; exact hY) rfl)
            · have c_44 : b < (mT u.1) := cNle c_44 (by omega) (by omega)
              refine lv_aload_n hx hb dX3_look_47 rfl (lv_at hl 0 rfl) ?_
              refine k_get (v := .ref (gL G 5)) X hK inX3 rfl hP (wR_g G ((u.1, Y)) (k := 0) (by decide)) 8 (by decide) tw_2_143 rfl dX3_look_48 ?_
              refine lv_iload_n hx hb dX3_look_51 rfl (lv_at hl 3 rfl) ?_
              refine k_ild (k := b) (v := nI (mEp u.1 b)) X hK hP (wR_g G ((u.1, Y)) (k := 5) (by decide)) (by omega) (by decide) rfl dX3_look_52 ?_
              refine lv_aload_n hx hb dX3_look_53 rfl (lv_at hl 0 rfl) ?_
              refine k_get (v := .int (nI (mP u.1))) X hK inX3 rfl hP (wR_g G ((u.1, Y)) (k := 0) (by decide)) 5 (by decide) tw_2_140 rfl dX3_look_54 ?_
              refine lv_icmp_ne (tgt := 110) hx hb dX3_look_57 (by decide) (fun c_57 => ?_) (fun c_57 => ?_)
              · have c_57 : (mEp u.1 b) ≠ (mP u.1) := cNe c_57 (by omega) (by omega)
                refine lv_iinc (v := nI (b + 1)) (lv' := [(3, .int (nI (b + 1))), (0, .ref (gL G 0)), (1, .int (nI v)), (2, .int (oI f))]) hx hb dX3_look_110 hl (k := 3) rfl (nI_add b 1) (by decide) rfl (fun ls hl => ?_)
                refine lv_goto (tgt := 39) hx hb dX3_look_113 (by decide) ?_
                exact ih_39 (mT u.1 - (b + 1)) (by omega) (b + 1) f rfl (by omega) (by omega) (fst_skip hfst (fun ⟨q1, q2⟩ => by first | exact c_57 q1 | (rw [q2] at c_75; exact absurd c_75 (by decide)))) _ _ _ hP hS (lv_sub hl [1, 2, 3, 0] rfl)
              · have c_57 : (mEp u.1 b) = (mP u.1) := cEq c_57 (by omega) (by omega)
                refine lv_aload_n hx hb dX3_look_60 rfl (lv_at hl 0 rfl) ?_
                refine k_get (v := .ref (gL G 9)) X hK inX3 rfl hP (wR_g G ((u.1, Y)) (k := 0) (by decide)) 12 (by decide) tw_2_147 rfl dX3_look_61 ?_
                refine lv_bipush (v := nI 10) hx hb dX3_look_64 (by decide) ?_
                refine lv_iload_n hx hb dX3_look_66 rfl (lv_at hl 3 rfl) ?_
                refine lv_iconst (v := -1) hx hb dX3_look_67 (by decide) ?_
                refine k_ci (k_runS (As := [.int (nI b), .int (-1)]) (rest := [.int (nI 10), .ref (gL G 9)]) X hK hP (m3_letterN l G (AR G) (wR G) ((u.1, Y)) b) ⟨rfl, rfl⟩ tw_3_10 tw_3_11 tw_1_6 tw_3_12 ⟨by decide +kernel, by decide +kernel, (by decide +kernel : (parseMethodDescriptor yX3_letter.desc).map (fun d => d.parameters.length) = some 2)⟩ ⟨Nat.le_of_ble_eq_true rfl, Nat.le_of_ble_eq_true rfl⟩ hl.1 rfl (Nat.le_of_ble_eq_true rfl) ⟨Nat.zero_le _, Nat.zero_le _⟩ dX3_look_68) hS (fun r_68 u_68 H locs hq_68 hP hS => ?_)
                have hP := k_su hq_68.2 hP
                refine k_ti hq_68.1 ?_
                refine lv_imul hx hb dX3_look_71 ?_
                refine k_ti (pk_mul 10 (11 * b)) ?_
                refine lv_iload_n hx hb dX3_look_72 rfl (lv_at hl 1 rfl) ?_
                refine lv_iadd hx hb dX3_look_73 ?_
                refine k_ti (nI_add (10 * (11 * b)) v) ?_
                refine k_zld (k := 10 * (11 * b) + v) (v := bI (mHs u.1 (11 * b) v)) X hK hP (wR_g G ((u.1, Y)) (k := 9) (by decide)) (by omega) (by decide) (f10_at _ (show v < 10 by omega)) dX3_look_74 ?_
                refine lv_if_eq (tgt := 110) hx hb dX3_look_75 (by decide) (fun c_75 => ?_) (fun c_75 => ?_)
                · have c_75 : (mHs u.1 (11 * b) v) = false := (bI_eq0 _).mp c_75
                  refine lv_iinc (v := nI (b + 1)) (lv' := [(3, .int (nI (b + 1))), (0, .ref (gL G 0)), (1, .int (nI v)), (2, .int (oI f))]) hx hb dX3_look_110 hl (k := 3) rfl (nI_add b 1) (by decide) rfl (fun ls hl => ?_)
                  refine lv_goto (tgt := 39) hx hb dX3_look_113 (by decide) ?_
                  exact ih_39 (mT u.1 - (b + 1)) (by omega) (b + 1) f rfl (by omega) (by omega) (fst_skip hfst (fun ⟨q1, q2⟩ => by first | exact c_57 q1 | (rw [q2] at c_75; exact absurd c_75 (by decide)))) _ _ _ hP hS (lv_sub hl [1, 2, 3, 0] rfl)
                · have c_75 : (mHs u.1 (11 * b) v) = true := (bI_ne0 _).mp c_75
                  refine lv_iload_n hx hb dX3_look_78 rfl (lv_at hl 2 rfl) ?_
                  refine lv_iconst (v := -1) hx hb dX3_look_79 (by decide) ?_
                  refine lv_icmp_eq (tgt := 108) hx hb dX3_look_80 (by decide) (fun c_80 => ?_) (fun c_80 => ?_)
                  · have hf0 : f = 0 := (oI_m1 (by omega)).mp c_80
                    refine lv_iload_n hx hb dX3_look_108 rfl (lv_at hl 3 rfl) ?_
                    refine k_ti (oI_pos (by omega)) ?_
                    refine lv_istore_n (lv' := [(2, .int (oI b)), (0, .ref (gL G 0)), (1, .int (nI v)), (3, .int (nI b))]) hx hb dX3_look_109 rfl hl (by decide) rfl (fun ls hl => ?_)
                    refine lv_iinc (v := nI (b + 1)) (lv' := [(3, .int (nI (b + 1))), (2, .int (oI b)), (0, .ref (gL G 0)), (1, .int (nI v))]) hx hb dX3_look_110 hl (k := 3) rfl (nI_add b 1) (by decide) rfl (fun ls hl => ?_)
                    refine lv_goto (tgt := 39) hx hb dX3_look_113 (by decide) ?_
                    exact ih_39 (mT u.1 - (b + 1)) (by omega) (b + 1) b rfl (by omega) (by omega) (fst_take hfst (by omega) c_57 c_75 (by first | exact Or.inl hf0 | exact Or.inr c_105)) _ _ _ hP hS (lv_sub hl [2, 3, 1, 0] rfl)
                  · have hf0 : 0 < f := Nat.pos_of_ne_zero fun h => c_80 (by rw [h]; rfl)
                    have hya := y_bnd hY b v
                    have hyb := y_bnd hY f v
                    refine lv_aload_n hx hb dX3_look_83 rfl (lv_at hl 0 rfl) ?_
                    refine k_get (v := .ref (gL G 11)) X hK inX3 rfl hP (wR_g G ((u.1, Y)) (k := 0) (by decide)) 14 (by decide) tw_2_149 rfl dX3_look_84 ?_
                    refine lv_bipush (v := nI 10) hx hb dX3_look_87 (by decide) ?_
                    refine lv_iload_n hx hb dX3_look_89 rfl (lv_at hl 3 rfl) ?_
                    refine lv_imul hx hb dX3_look_90 ?_
                    refine k_ti (pk_mul 10 b) ?_
                    refine lv_iload_n hx hb dX3_look_91 rfl (lv_at hl 1 rfl) ?_
                    refine lv_iadd hx hb dX3_look_92 ?_
                    refine k_ti (nI_add (10 * b) v) ?_
                    refine k_ild (k := 10 * b + v) (v := nI ((yCa Y) b v)) X hK hP (wR_g G ((u.1, Y)) (k := 11) (by decide)) (by omega) (by decide) (ca_at _ (show v < 10 by omega)) dX3_look_93 ?_
                    refine lv_aload_n hx hb dX3_look_94 rfl (lv_at hl 0 rfl) ?_
                    refine k_get (v := .ref (gL G 11)) X hK inX3 rfl hP (wR_g G ((u.1, Y)) (k := 0) (by decide)) 14 (by decide) tw_2_149 rfl dX3_look_95 ?_
                    refine lv_bipush (v := nI 10) hx hb dX3_look_98 (by decide) ?_
                    refine lv_iload_n hx hb dX3_look_100 rfl (lv_at hl 2 rfl) ?_
                    refine k_ti (oI_pos hf0).symm ?_
                    refine lv_imul hx hb dX3_look_101 ?_
                    refine k_ti (pk_mul 10 f) ?_
                    refine lv_iload_n hx hb dX3_look_102 rfl (lv_at hl 1 rfl) ?_
                    refine lv_iadd hx hb dX3_look_103 ?_
                    refine k_ti (nI_add (10 * f) v) ?_
                    refine k_ild (k := 10 * f + v) (v := nI ((yCa Y) f v)) X hK hP (wR_g G ((u.1, Y)) (k := 11) (by decide)) (by omega) (by decide) (ca_at _ (show v < 10 by omega)) dX3_look_104 ?_
                    refine lv_icmp_ge (tgt := 110) hx hb dX3_look_105 (by decide) (fun c_105 => ?_) (fun c_105 => ?_)
                    · have c_105 : ((yCa Y) f v) ≤ ((yCa Y) b v) := cLe c_105 (by omega) (by omega)
                      refine lv_iinc (v := nI (b + 1)) (lv' := [(3, .int (nI (b + 1))), (0, .ref (gL G 0)), (1, .int (nI v)), (2, .int (oI f))]) hx hb dX3_look_110 hl (k := 3) rfl (nI_add b 1) (by decide) rfl (fun ls hl => ?_)
                      refine lv_goto (tgt := 39) hx hb dX3_look_113 (by decide) ?_
                      exact ih_39 (mT u.1 - (b + 1)) (by omega) (b + 1) f rfl (by omega) (by omega) (fst_keep hfst hf0 c_105) _ _ _ hP hS (lv_sub hl [1, 2, 3, 0] rfl)
                    · have c_105 : ((yCa Y) b v) < ((yCa Y) f v) := cNle c_105 (by omega) (by omega)
                      refine lv_iload_n hx hb dX3_look_108 rfl (lv_at hl 3 rfl) ?_
                      refine k_ti (oI_pos (by omega)) ?_
                      refine lv_istore_n (lv' := [(2, .int (oI b)), (0, .ref (gL G 0)), (1, .int (nI v)), (3, .int (nI b))]) hx hb dX3_look_109 rfl hl (by decide) rfl (fun ls hl => ?_)
                      refine lv_iinc (v := nI (b + 1)) (lv' := [(3, .int (nI (b + 1))), (2, .int (oI b)), (0, .ref (gL G 0)), (1, .int (nI v))]) hx hb dX3_look_110 hl (k := 3) rfl (nI_add b 1) (by decide) rfl (fun ls hl => ?_)
                      refine lv_goto (tgt := 39) hx hb dX3_look_113 (by decide) ?_
                      exact ih_39 (mT u.1 - (b + 1)) (by omega) (b + 1) b rfl (by omega) (by omega) (fst_take hfst (by omega) c_57 c_75 (by first | exact Or.inl hf0 | exact Or.inr c_105)) _ _ _ hP hS (lv_sub hl [2, 3, 1, 0] rfl)
        exact loop_39 _ 1 0 rfl (Nat.le_refl _) (kT1) (fst_0 _ _ _) _ _ _ hP hS (lv_sub hl [2, 3, 1, 0] rfl)
      · have hc0 : cCh u v = 0 := cCh_vf (fun h => c_31 (by rw [h]; rfl))
        exact k_retv X hr hlocks hP hS dX3_look_34 (lk_of (by rw [look_id hc0]) (by rw [look_id hc0]; exact hY) rfl)

set_option maxHeartbeats 4000000 in
set_option maxRecDepth 100000 in
theorem m3_comes (l : Launch) (G : kG) (u : CS) (Y : YS) (hL : layR G) (hI : Inv0 G u) (hY : InvY (gn G) u.1 Y) {v l0 : Nat} (hv : v < gn G) (hw : mWy u.1 l0 v = true) : KMv l G (AR G) (wR G) yX3_comes cX3_comes 3 (Option.none : Option FieldType) ({ frames := 4, cells := 0, slots := 0, locals := 93 }) [.ref (gL G 0), .int (nI v), .int (nI l0)] (u.1, Y) (fun r => LK (gn G) (stepL (gn G) v u l0) Y r) := by
  refine K_of (by decide) (Nat.le_of_ble_eq_true rfl) ?_
  intro p e s m below meth c X hr hlocks hnm hK hP ls hl
  have hx := X.1
  have hb := X.2.1
  have hown := X.2.2.2.1
  have hts := X.2.2.2.2
  have hS : va_S (AR G) s.heap s.heap [] := va_S.rf
  have hl : lv_has ls 3 [(0, .ref (gL G 0)), (1, .int (nI v)), (2, .int (nI l0))] := hl
  have hk : okR G (u.1, Y) := okR_of hI.1 Y
  obtain ⟨⟨kn4, kn10⟩, ⟨kT1, kT61⟩, kP40, kLd, kPar, kEp, kHt, kVf⟩ := id hk
  dsimp only at kT1 kT61 kP40 kLd kPar kEp kHt kVf
  have hl0 := (hI.2.1 l0 v (Or.inr hw)).2.1
  refine lv_aload_n hx hb dX3_comes_0 rfl (lv_at hl 0 rfl) ?_
  refine lv_dup hx hb dX3_comes_1 rfl ?_
  refine k_get (v := .int (nI (mC u.1))) X hK inX3 rfl hP (wR_g G ((u.1, Y)) (k := 0) (by decide)) 16 (by decide) tw_2_151 rfl dX3_comes_2 ?_
  refine lv_iconst (v := nI 1) hx hb dX3_comes_5 (by decide) ?_
  refine lv_iadd hx hb dX3_comes_6 ?_
  refine k_ti (nI_add (mC u.1) 1) ?_
  refine k_put (v := .int (nI ((mC u.1) + 1))) X hK inX3 rfl tyX3_ok nmX3 hP (wR_D hL _) hS (wR_g G ((u.1, Y)) (k := 0) (by decide)) 16 (by decide) tw_2_151 rfl rfl rfl (Nat.le_of_ble_eq_true rfl) ((sC u.1 ((mC u.1) + 1), Y)) (rs_C G ((u.1, Y)) ((mC u.1) + 1)) dX3_comes_7 (fun H locs hP hS => ?_)
  refine lv_aload_n hx hb dX3_comes_10 rfl (lv_at hl 0 rfl) ?_
  refine lv_iload_n hx hb dX3_comes_11 rfl (lv_at hl 1 rfl) ?_
  refine lv_iload_n hx hb dX3_comes_12 rfl (lv_at hl 2 rfl) ?_
  refine k_cv (k_runV (As := [.int (nI v), .int (nI l0)]) (rest := []) X hK hP (wR_g G ((sC u.1 ((mC u.1) + 1), Y)) (k := 0) (by decide)) rfl (m3_gain l G ((sC u.1 ((mC u.1) + 1), Y)) hL (hk) (v := v) (l0 := l0) (by omega) (by omega)) ⟨rfl, rfl⟩ tw_3_21 tw_3_23 tw_0_31 tw_1_6 tw_3_24 ⟨by decide +kernel, by decide +kernel, (by decide +kernel : (parseMethodDescriptor yX3_gain.desc).map (fun d => d.parameters.length) = some 2)⟩ ⟨Nat.le_of_ble_eq_true rfl, Nat.le_of_ble_eq_true rfl⟩ hl.1 rfl (Nat.le_of_ble_eq_true rfl) ⟨Nat.zero_le _, Nat.zero_le _⟩ dX3_comes_13) hS (fun u_13 H locs hq_13 hP hS => ?_)
  have hP := k_su hq_13 hP
  have hP := k_wr (tk_wR hI v l0 _) hP
  have hI2 := tk_inv hI hv hw
  have hY2 := tk_Y hI hY hv hw
  refine lv_aload_n hx hb dX3_comes_16 rfl (lv_at hl 0 rfl) ?_
  refine lv_iload_n hx hb dX3_comes_17 rfl (lv_at hl 1 rfl) ?_
  refine k_cv (k_runV (As := [.int (nI v)]) (rest := []) X hK hP (wR_g G (((tkL (gn G) v u l0).1, gnY Y l0 v)) (k := 0) (by decide)) rfl (m3_look l G (tkL (gn G) v u l0) (gnY Y l0 v) hL hI2 hY2 (v := v) (by omega)) ⟨rfl, rfl⟩ tw_3_25 tw_3_27 tw_0_32 tw_1_6 tw_3_28 ⟨by decide +kernel, by decide +kernel, (by decide +kernel : (parseMethodDescriptor yX3_look.desc).map (fun d => d.parameters.length) = some 1)⟩ ⟨Nat.le_of_ble_eq_true rfl, Nat.le_of_ble_eq_true rfl⟩ hl.1 rfl (Nat.le_of_ble_eq_true rfl) ⟨Nat.zero_le _, Nat.zero_le _⟩ dX3_comes_18) hS (fun u_18 H locs hq_18 hP hS => ?_)
  obtain ⟨M_18, Y_18⟩ := u_18
  obtain ⟨hM_18, hY_18, hT_18⟩ := hq_18
  dsimp only at hM_18 hY_18 hT_18
  subst hM_18
  exact k_retv X hr hlocks hP hS dX3_comes_21 (lk_of (by rw [step_tk hw]) (by rw [step_tk hw]; exact hY_18) (by rw [hT_18, gnY_tc]))

set_option maxHeartbeats 4000000 in
set_option maxRecDepth 100000 in
theorem m3_flowTo (l : Launch) (G : kG) (u : CS) (Y : YS) (hL : layR G) (hI : Inv G u) (hY : InvY (gn G) u.1 Y) {v : Nat} (hv : v < gn G) : KMi l G (AR G) (wR G) yX3_flowTo cX3_flowTo 4 (Option.some FieldType.int) ({ frames := 5, cells := 0, slots := 0, locals := 115 }) [.ref (gL G 0), .int (nI v)] (u.1, Y) (fun z r => z = nI (mC (cFlow (gn G) u v).1 - mC u.1) ∧ LK0 (gn G) (cFlow (gn G) u v) r) := by
  refine K_of (by decide) (Nat.le_of_ble_eq_true rfl) ?_
  intro p e s m below meth c X hr hlocks hnm hK hP ls hl
  have hx := X.1
  have hb := X.2.1
  have hown := X.2.2.2.1
  have hts := X.2.2.2.2
  have hS : va_S (AR G) s.heap s.heap [] := va_S.rf
  have hl : lv_has ls 4 [(0, .ref (gL G 0)), (1, .int (nI v))] := hl
  have hk : okR G (u.1, Y) := okR_of hI.1.1 Y
  obtain ⟨⟨kn4, kn10⟩, ⟨kT1, kT61⟩, kP40, kLd, kPar, kEp, kHt, kVf⟩ := id hk
  dsimp only at kT1 kT61 kP40 kLd kPar kEp kHt kVf
  refine lv_iconst (v := nI 0) hx hb dX3_flowTo_0 (by decide) ?_
  refine lv_istore_n (lv' := [(2, .int (nI 0)), (0, .ref (gL G 0)), (1, .int (nI v))]) hx hb dX3_flowTo_1 rfl hl (by decide) rfl (fun ls hl => ?_)
  refine lv_iconst (v := nI 0) hx hb dX3_flowTo_2 (by decide) ?_
  refine lv_istore_n (lv' := [(3, .int (nI 0)), (2, .int (nI 0)), (0, .ref (gL G 0)), (1, .int (nI v))]) hx hb dX3_flowTo_3 rfl hl (by decide) rfl (fun ls hl => ?_)
  have loop_4 : ∀ (d_4 : Nat) (i : Nat) (tc : Nat → Bool), 11 * mT u.1 - i = d_4 → (i ≤ 11 * mT u.1) → (∀ l1, l1 < i → tc l1 = mWy u.1 l1 v) → ∀ (H : Heap) (locs : List Loc) (ls : Array Slot), va_P (gD G) vwCl ((wR G) ((u.1, wTc Y tc))) H → va_S (AR G) s.heap H locs → lv_has ls 4 [(0, .ref (gL G 0)), (1, .int (nI v)), (2, .int (nI 0)), (3, .int (nI i))] → W p l e ({ frames := 5, cells := 0, slots := 0, locals := 115 } : Room) s m ([.ref (gL G 0), .int (nI v)] : List Value).toArray below meth c H locs 0 0 (MQ below (va_Qi (fun z r => z = nI (mC (cFlow (gn G) u v).1 - mC u.1) ∧ LK0 (gn G) (cFlow (gn G) u v) r) (KB G (wR G)) (AR G)) ([.ref (gL G 0), .int (nI v)] : List Value).toArray s 0 0 (AR G)) (F0 m 4 ls []) := by
    intro d_4
    induction d_4 using Nat.strongRecOn with
    | ind d_4 ih_4 =>
      intro i tc hd_4 hi htc H locs ls hP hS hl
      refine lv_iload_n hx hb dX3_flowTo_4 rfl (lv_at hl 3 rfl) ?_
      refine lv_bipush (v := nI 11) hx hb dX3_flowTo_5 (by decide) ?_
      refine lv_aload_n hx hb dX3_flowTo_7 rfl (lv_at hl 0 rfl) ?_
      refine k_get (v := .int (nI (mT u.1))) X hK inX3 rfl hP (wR_g G ((u.1, wTc Y tc)) (k := 0) (by decide)) 6 (by decide) tw_2_141 rfl dX3_flowTo_8 ?_
      refine lv_imul hx hb dX3_flowTo_11 ?_
      refine k_ti (pk_mul 11 (mT u.1)) ?_
      refine lv_icmp_ge (tgt := 38) hx hb dX3_flowTo_12 (by decide) (fun c_12 => ?_) (fun c_12 => ?_)
      · have c_12 : (11 * (mT u.1)) ≤ i := cLe c_12 (by omega) (by omega)
        refine lv_iconst (v := nI 0) hx hb dX3_flowTo_38 (by decide) ?_
        refine lv_istore_n (lv' := [(3, .int (nI 0)), (0, .ref (gL G 0)), (1, .int (nI v)), (2, .int (nI 0))]) hx hb dX3_flowTo_39 rfl hl (by decide) rfl (fun ls hl => ?_)
        have loop_40 : ∀ (d_40 : Nat) (j : Nat) (Y1 : YS) (al : Nat), 11 * mT u.1 - j = d_40 → (j ≤ 11 * mT u.1) → (∀ l1, l1 < 11 * mT u.1 → yTc Y1 l1 = mWy u.1 l1 v) → (InvY (gn G) (flL (gn G) v u j).1 Y1) → (al + mC u.1 = mC (flL (gn G) v u j).1) → ∀ (H : Heap) (locs : List Loc) (ls : Array Slot), va_P (gD G) vwCl ((wR G) (((flL (gn G) v u j).1, Y1))) H → va_S (AR G) s.heap H locs → lv_has ls 4 [(0, .ref (gL G 0)), (1, .int (nI v)), (2, .int (nI al)), (3, .int (nI j))] → W p l e ({ frames := 5, cells := 0, slots := 0, locals := 115 } : Room) s m ([.ref (gL G 0), .int (nI v)] : List Value).toArray below meth c H locs 0 0 (MQ below (va_Qi (fun z r => z = nI (mC (cFlow (gn G) u v).1 - mC u.1) ∧ LK0 (gn G) (cFlow (gn G) u v) r) (KB G (wR G)) (AR G)) ([.ref (gL G 0), .int (nI v)] : List Value).toArray s 0 0 (AR G)) (F0 m 40 ls []) := by
          intro d_40
          induction d_40 using Nat.strongRecOn with
          | ind d_40 ih_40 =>
            intro j Y1 al hd_40 hj hTc hYj hal H locs ls hP hS hl
            have hIj := flL_inv hI hv j
            have hTj : mT (flL (gn G) v u j).1 = mT u.1 := stat_T (st_flL _ _ _ _)
            have hwj := flL_wy hI hv j j
            rw [if_neg (Nat.lt_irrefl _)] at hwj
            have hsC := step_C (gn G) v (flL (gn G) v u j) j
            refine lv_iload_n hx hb dX3_flowTo_40 rfl (lv_at hl 3 rfl) ?_
            refine lv_bipush (v := nI 11) hx hb dX3_flowTo_41 (by decide) ?_
            refine lv_aload_n hx hb dX3_flowTo_43 rfl (lv_at hl 0 rfl) ?_
            refine k_get (v := .int (nI (mT ((flL (gn G) v u j).1)))) X hK inX3 rfl hP (wR_g G (((flL (gn G) v u j).1, Y1)) (k := 0) (by decide)) 6 (by decide) tw_2_141 rfl dX3_flowTo_44 ?_
            refine k_ti (congrArg nI hTj) ?_
            refine lv_imul hx hb dX3_flowTo_47 ?_
            refine k_ti (pk_mul 11 (mT u.1)) ?_
            refine lv_icmp_ge (tgt := 75) hx hb dX3_flowTo_48 (by decide) (fun c_48 => ?_) (fun c_48 => ?_)
            · have c_48 : (11 * (mT u.1)) ≤ j := cLe c_48 (by omega) (by omega)
              refine lv_iload_n hx hb dX3_flowTo_75 rfl (lv_at hl 2 rfl) ?_
              exact k_reti X hr hlocks hP hS dX3_flowTo_76 ⟨by rw [flow_eq hI hv, show 11 * mT u.1 = j by omega, ← hal, Nat.add_sub_cancel], by rw [flow_eq hI hv, show 11 * mT u.1 = j by omega]; exact ⟨rfl, hYj⟩⟩
            · have c_48 : j < (11 * (mT u.1)) := cNle c_48 (by omega) (by omega)
              refine lv_aload_n hx hb dX3_flowTo_51 rfl (lv_at hl 0 rfl) ?_
              refine k_get (v := .ref (gL G 16)) X hK inX3 rfl hP (wR_g G (((flL (gn G) v u j).1, Y1)) (k := 0) (by decide)) 25 (by decide) tw_2_160 rfl dX3_flowTo_52 ?_
              refine lv_iload_n hx hb dX3_flowTo_55 rfl (lv_at hl 3 rfl) ?_
              refine k_zld (k := j) (v := bI ((yTc Y1) j)) X hK hP (wR_g G (((flL (gn G) v u j).1, Y1)) (k := 16) (by decide)) (by omega) (by decide) rfl dX3_flowTo_56 ?_
              refine lv_if_eq (tgt := 69) hx hb dX3_flowTo_57 (by decide) (fun c_57 => ?_) (fun c_57 => ?_)
              · have c_57 : ((yTc Y1) j) = false := (bI_eq0 _).mp c_57
                refine lv_iinc (v := nI (j + 1)) (lv' := [(3, .int (nI (j + 1))), (0, .ref (gL G 0)), (1, .int (nI v)), (2, .int (nI al))]) hx hb dX3_flowTo_69 hl (k := 3) rfl (nI_add j 1) (by decide) rfl (fun ls hl => ?_)
                refine lv_goto (tgt := 40) hx hb dX3_flowTo_72 (by decide) ?_
                exact ih_40 (11 * mT u.1 - (j + 1)) (by omega) (j + 1) Y1 al rfl (by omega) (hTc) (by rw [flL, step_none _ _ _ _ (by rw [hwj, ← hTc j (by omega)]; exact c_57)]; exact hYj) (by rw [flL, step_none _ _ _ _ (by rw [hwj, ← hTc j (by omega)]; exact c_57)]; exact hal) _ _ _ (k_su (show _ = ((flL (gn G) v u (j + 1)).1, Y1) by rw [flL, step_none _ _ _ _ (by rw [hwj, ← hTc j (by omega)]; exact c_57)]) hP) hS (lv_sub hl [1, 2, 3, 0] rfl)
              · have c_57 : ((yTc Y1) j) = true := (bI_ne0 _).mp c_57
                refine lv_iinc (v := nI (al + 1)) (lv' := [(2, .int (nI (al + 1))), (0, .ref (gL G 0)), (1, .int (nI v)), (3, .int (nI j))]) hx hb dX3_flowTo_60 hl (k := 2) rfl (nI_add al 1) (by decide) rfl (fun ls hl => ?_)
                refine lv_aload_n hx hb dX3_flowTo_63 rfl (lv_at hl 1 rfl) ?_
                refine lv_iload_n hx hb dX3_flowTo_64 rfl (lv_at hl 2 rfl) ?_
                refine lv_iload_n hx hb dX3_flowTo_65 rfl (lv_at hl 3 rfl) ?_
                refine k_cv (k_runV (As := [.int (nI v), .int (nI j)]) (rest := []) X hK hP (wR_g G (((flL (gn G) v u j).1, Y1)) (k := 0) (by decide)) rfl (m3_comes l G (flL (gn G) v u j) Y1 hL hIj.1 hYj (v := v) (l0 := j) (by omega) (by rw [hwj, ← hTc j (by omega)]; exact c_57)) ⟨rfl, rfl⟩ tw_3_37 tw_3_39 tw_0_34 tw_1_6 tw_3_40 ⟨by decide +kernel, by decide +kernel, (by decide +kernel : (parseMethodDescriptor yX3_comes.desc).map (fun d => d.parameters.length) = some 2)⟩ ⟨Nat.le_of_ble_eq_true rfl, Nat.le_of_ble_eq_true rfl⟩ hl.1 rfl (Nat.le_of_ble_eq_true rfl) ⟨Nat.zero_le _, Nat.zero_le _⟩ dX3_flowTo_66) hS (fun u_66 H locs hq_66 hP hS => ?_)
                obtain ⟨M_66, Y_66⟩ := u_66
                obtain ⟨hM_66, hY_66, hT_66⟩ := hq_66
                dsimp only at hM_66 hY_66 hT_66
                subst hM_66
                refine lv_iinc (v := nI (j + 1)) (lv' := [(3, .int (nI (j + 1))), (2, .int (nI (al + 1))), (0, .ref (gL G 0)), (1, .int (nI v))]) hx hb dX3_flowTo_69 hl (k := 3) rfl (nI_add j 1) (by decide) rfl (fun ls hl => ?_)
                refine lv_goto (tgt := 40) hx hb dX3_flowTo_72 (by decide) ?_
                exact ih_40 (11 * mT u.1 - (j + 1)) (by omega) (j + 1) Y_66 (al + 1) rfl (by omega) (fun l1 h => by rw [hT_66]; exact hTc l1 h) (hY_66) (by rw [flL, hsC, if_pos (by rw [hwj, ← hTc j (by omega)]; exact c_57)]; omega) _ _ _ hP hS (lv_sub hl [2, 3, 1, 0] rfl)
        exact loop_40 _ 0 (wTc Y tc) 0 rfl (Nat.zero_le _) (fun l1 h => htc l1 (by omega)) (InvY_Y hY rfl rfl) (Nat.zero_add _) _ _ _ hP hS (lv_sub hl [1, 2, 3, 0] rfl)
      · have c_12 : i < (11 * (mT u.1)) := cNle c_12 (by omega) (by omega)
        refine lv_aload_n hx hb dX3_flowTo_15 rfl (lv_at hl 0 rfl) ?_
        refine k_get (v := .ref (gL G 16)) X hK inX3 rfl hP (wR_g G ((u.1, wTc Y tc)) (k := 0) (by decide)) 25 (by decide) tw_2_160 rfl dX3_flowTo_16 ?_
        refine lv_iload_n hx hb dX3_flowTo_19 rfl (lv_at hl 3 rfl) ?_
        refine lv_aload_n hx hb dX3_flowTo_20 rfl (lv_at hl 0 rfl) ?_
        refine k_get (v := .ref (gL G 10)) X hK inX3 rfl hP (wR_g G ((u.1, wTc Y tc)) (k := 0) (by decide)) 13 (by decide) tw_2_148 rfl dX3_flowTo_21 ?_
        refine lv_bipush (v := nI 10) hx hb dX3_flowTo_24 (by decide) ?_
        refine lv_iload_n hx hb dX3_flowTo_26 rfl (lv_at hl 3 rfl) ?_
        refine lv_imul hx hb dX3_flowTo_27 ?_
        refine k_ti (pk_mul 10 i) ?_
        refine lv_iload_n hx hb dX3_flowTo_28 rfl (lv_at hl 1 rfl) ?_
        refine lv_iadd hx hb dX3_flowTo_29 ?_
        refine k_ti (nI_add (10 * i) v) ?_
        refine k_zld (k := 10 * i + v) (v := bI (mWy u.1 i v)) X hK hP (wR_g G ((u.1, wTc Y tc)) (k := 10) (by decide)) (by omega) (by decide) (f10_at _ (show v < 10 by omega)) dX3_flowTo_30 ?_
        refine k_zst (k := i) (x := bI (mWy u.1 i v)) X hK hP (wR_D hL _) hS (wR_g G ((u.1, wTc Y tc)) (k := 16) (by decide)) (by omega) (by decide) (bI_vnar _) ((u.1, wTc (wTc Y tc) (va_up (tc) i (mWy u.1 i v)))) (rs_Tc G ((u.1, wTc Y tc)) i (mWy u.1 i v)) dX3_flowTo_31 (fun H locs hP hS => ?_)
        refine lv_iinc (v := nI (i + 1)) (lv' := [(3, .int (nI (i + 1))), (0, .ref (gL G 0)), (1, .int (nI v)), (2, .int (nI 0))]) hx hb dX3_flowTo_32 hl (k := 3) rfl (nI_add i 1) (by decide) rfl (fun ls hl => ?_)
        refine lv_goto (tgt := 4) hx hb dX3_flowTo_35 (by decide) ?_
        exact ih_4 (11 * mT u.1 - (i + 1)) (by omega) (i + 1) (va_up tc i (mWy u.1 i v)) rfl (by omega) (fun l1 h => by
          by_cases e : l1 = i
          · rw [e, va_up_self]
          · rw [va_up_ne _ _ e]; exact htc l1 (by omega)) _ _ _ hP hS (lv_sub hl [1, 2, 3, 0] rfl)
  exact loop_4 _ 0 (yTc Y) rfl (Nat.zero_le _) (fun l1 h => absurd h (Nat.not_lt_zero _)) _ _ _ hP hS (lv_sub hl [2, 3, 1, 0] rfl)
