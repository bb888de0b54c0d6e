set_option maxHeartbeats 4000000 in
set_option maxRecDepth 100000 in
theorem m2_letAllCome (l : Launch) (G : kG) (u : CS) (hL : lay G) (hk : okC G u) {v : Nat} (hv : v < gn G) : KMi l G (AC G) (wC G) yX2_letAllCome cX2_letAllCome 5 (Option.some FieldType.int) ({ frames := 5, cells := 0, slots := 0, locals := 119 }) [.ref (gL G 0), .ref (gL G (11 + 5 * v))] u (fun r u' => r = nI (mC (cFlow (gn G) u v).1) - nI (mC u.1) ∧ u' = cFlow (gn G) u v) := by
  refine K_of (by decide) (Nat.le_of_ble_eq_true rfl) ?_
  intro p e s m below meth c X hr hlocks hnm hK hP ls hl
  have hx := X.1
  have hb := X.2.1
  have hown := X.2.2.2.1
  have hts := X.2.2.2.2
  have hS : va_S (AC G) s.heap s.heap [] := va_S.rf
  have hl : lv_has ls 5 [(0, .ref (gL G 0)), (1, .ref (gL G (11 + 5 * v)))] := hl
  obtain ⟨kn4, kn10, kT1, kT61, kP40, kLd, kPar, kEp, kHt, kFc, kVf, kTp, kHf⟩ := id hk
  refine lv_aload_n hx hb dX2_letAllCome_0 rfl (lv_at hl 0 rfl) ?_
  refine k_get (v := .int (nI (mC u.1))) X hK inX2 rfl hP (wC_g G u (k := 0) (by decide)) 5 (by decide) tw_1_144 rfl dX2_letAllCome_1 ?_
  refine lv_istore_n (lv' := [(2, .int (nI (mC u.1))), (0, .ref (gL G 0)), (1, .ref (gL G (11 + 5 * v)))]) hx hb dX2_letAllCome_4 rfl hl (by decide) rfl (fun ls hl => ?_)
  refine lv_iconst (v := nI 1) hx hb dX2_letAllCome_5 (by decide) ?_
  refine lv_istore_n (lv' := [(3, .int (nI 1)), (2, .int (nI (mC u.1))), (0, .ref (gL G 0)), (1, .ref (gL G (11 + 5 * v)))]) hx hb dX2_letAllCome_6 rfl hl (by decide) rfl (fun ls hl => ?_)
  have loop_7 : ∀ (d_7 : Nat) (i : Nat) (w : CS), mT u.1 - i = d_7 → (1 ≤ i) → (i ≤ mT u.1) → (w = fB (gn G) v u (i - 1)) → ∀ (H : Heap) (locs : List Loc) (ls : Array Slot), va_P (gD G) vwCl ((wC G) w) H → va_S (AC G) s.heap H locs → lv_has ls 5 [(0, .ref (gL G 0)), (1, .ref (gL G (11 + 5 * v))), (2, .int (nI (mC u.1))), (3, .int (nI i))] → W p l e ({ frames := 5, cells := 0, slots := 0, locals := 119 } : Room) s m ([.ref (gL G 0), .ref (gL G (11 + 5 * v))] : List Value).toArray below meth c H locs 0 0 (MQ below (va_Qi (fun r u' => r = nI (mC (cFlow (gn G) u v).1) - nI (mC u.1) ∧ u' = cFlow (gn G) u v) (KB G (wC G)) (AC G)) ([.ref (gL G 0), .ref (gL G (11 + 5 * v))] : List Value).toArray s 0 0 (AC G)) (F0 m 7 ls []) := by
    intro d_7
    induction d_7 using Nat.strongRecOn with
    | ind d_7 ih_7 =>
      intro i w hd_7 hi1 hi hw H locs ls hP hS hl
      have hok : okC G w := by rw [hw]; exact ok_fB hk (by omega)
      have hwT : mT w.1 = mT u.1 := by rw [hw]; exact stat_T (st_fB _ _ _ _)
      have join_86 : ∀ (w3 : CS) (hiT : i < mT u.1) (hw3 : w3 = fV (gn G) v i (fP (gn G) v i w) (gn G)) (H : Heap) (locs : List Loc) (ls : Array Slot), va_P (gD G) vwCl ((wC G) w3) H → va_S (AC G) s.heap H locs → lv_has ls 5 [(0, .ref (gL G 0)), (1, .ref (gL G (11 + 5 * v))), (2, .int (nI (mC u.1))), (3, .int (nI i))] → W p l e ({ frames := 5, cells := 0, slots := 0, locals := 119 } : Room) s m ([.ref (gL G 0), .ref (gL G (11 + 5 * v))] : List Value).toArray below meth c H locs 0 0 (MQ below (va_Qi (fun r u' => r = nI (mC (cFlow (gn G) u v).1) - nI (mC u.1) ∧ u' = cFlow (gn G) u v) (KB G (wC G)) (AC G)) ([.ref (gL G 0), .ref (gL G (11 + 5 * v))] : List Value).toArray s 0 0 (AC G)) (F0 m 86 ls []) := by
        intro w3 hiT hw3 H locs ls hP hS hl
        refine lv_iinc (v := nI (i + 1)) (lv' := [(3, .int (nI (i + 1))), (0, .ref (gL G 0)), (1, .ref (gL G (11 + 5 * v))), (2, .int (nI (mC u.1)))]) hx hb dX2_letAllCome_86 hl (k := 3) rfl (nI_add i 1) (by decide) rfl (fun ls hl => ?_)
        refine lv_goto (tgt := 7) hx hb dX2_letAllCome_89 (by decide) ?_
        exact ih_7 (mT u.1 - (i + 1)) (by omega) (i + 1) w3 rfl (by omega) (hiT) (by rw [show i + 1 - 1 = (i - 1) + 1 by omega, fB, show i - 1 + 1 = i by omega, ← hw]; exact hw3) _ _ _ hP hS (lv_sub hl [1, 2, 3, 0] rfl)
      have join_35 : ∀ (w1 : CS) (hiT : i < mT u.1) (hw1 : w1 = fP (gn G) v i w) (H : Heap) (locs : List Loc) (ls : Array Slot), va_P (gD G) vwCl ((wC G) w1) H → va_S (AC G) s.heap H locs → lv_has ls 5 [(0, .ref (gL G 0)), (1, .ref (gL G (11 + 5 * v))), (2, .int (nI (mC u.1))), (3, .int (nI i))] → W p l e ({ frames := 5, cells := 0, slots := 0, locals := 119 } : Room) s m ([.ref (gL G 0), .ref (gL G (11 + 5 * v))] : List Value).toArray below meth c H locs 0 0 (MQ below (va_Qi (fun r u' => r = nI (mC (cFlow (gn G) u v).1) - nI (mC u.1) ∧ u' = cFlow (gn G) u v) (KB G (wC G)) (AC G)) ([.ref (gL G 0), .ref (gL G (11 + 5 * v))] : List Value).toArray s 0 0 (AC G)) (F0 m 35 ls []) := by
        intro w1 hiT hw1 H locs ls hP hS hl
        have hok1 : okC G w1 := by rw [hw1]; exact ok_fP hok (by omega)
        have hw1T : mT w1.1 = mT u.1 := by rw [hw1, stat_T (st_fP _ _ _ _)]; exact hwT
        refine lv_iconst (v := nI 0) hx hb dX2_letAllCome_35 (by decide) ?_
        refine lv_istore (lv' := [(4, .int (nI 0)), (0, .ref (gL G 0)), (1, .ref (gL G (11 + 5 * v))), (2, .int (nI (mC u.1))), (3, .int (nI i))]) hx hb dX2_letAllCome_36 hl (by decide) rfl (fun ls hl => ?_)
        have loop_38 : ∀ (d_38 : Nat) (x : Nat) (w2 : CS), gn G - x = d_38 → (x ≤ gn G) → (w2 = fV (gn G) v i w1 x) → ∀ (H : Heap) (locs : List Loc) (ls : Array Slot), va_P (gD G) vwCl ((wC G) w2) H → va_S (AC G) s.heap H locs → lv_has ls 5 [(0, .ref (gL G 0)), (1, .ref (gL G (11 + 5 * v))), (2, .int (nI (mC u.1))), (3, .int (nI i)), (4, .int (nI x))] → W p l e ({ frames := 5, cells := 0, slots := 0, locals := 119 } : Room) s m ([.ref (gL G 0), .ref (gL G (11 + 5 * v))] : List Value).toArray below meth c H locs 0 0 (MQ below (va_Qi (fun r u' => r = nI (mC (cFlow (gn G) u v).1) - nI (mC u.1) ∧ u' = cFlow (gn G) u v) (KB G (wC G)) (AC G)) ([.ref (gL G 0), .ref (gL G (11 + 5 * v))] : List Value).toArray s 0 0 (AC G)) (F0 m 38 ls []) := by
          intro d_38
          induction d_38 using Nat.strongRecOn with
          | ind d_38 ih_38 =>
            intro x w2 hd_38 hxn hw2 H locs ls hP hS hl
            have hok2 : okC G w2 := by rw [hw2]; exact ok_fV hok1 (by omega) _
            have hw2T : mT w2.1 = mT u.1 := by rw [hw2, stat_T (st_fV _ _ _ _ _)]; exact hw1T
            refine lv_iload hx hb dX2_letAllCome_38 (lv_at hl 4 rfl) ?_
            refine lv_aload_n hx hb dX2_letAllCome_40 rfl (lv_at hl 0 rfl) ?_
            refine k_get (v := .ref (gL G 1)) X hK inX2 rfl hP (wC_g G w2 (k := 0) (by decide)) 1 (by decide) tw_1_140 rfl dX2_letAllCome_41 ?_
            refine k_len X hK hP (wC_g G w2 (k := 1) (by decide)) dX2_letAllCome_44 ?_
            refine lv_icmp_ge (tgt := 86) hx hb dX2_letAllCome_45 (by decide) (fun c_45 => ?_) (fun c_45 => ?_)
            · have c_45 : (gn G) ≤ x := cLe c_45 (by omega) (by omega)
              exact join_86 w2 (hiT) (by first | (rw [hw2, show x = gn G by omega]; exact (by rw [hw1])) | (rw [← hw1]; rw [hw2]; exact (hstop).symm)) _ _ _ hP hS (lv_sub hl [0, 1, 2, 3] rfl)
            · have c_45 : x < (gn G) := cNle c_45 (by omega) (by omega)
              refine lv_aload_n hx hb dX2_letAllCome_48 rfl (lv_at hl 1 rfl) ?_
              refine k_gn (v := .ref (gL G (13 + 5 * v))) X hK inX1 rfl hP (wC_n0 G w2 hv) 8 (by decide) ntw_1_92 rfl dX2_letAllCome_49 ?_
              refine lv_iload_n hx hb dX2_letAllCome_52 rfl (lv_at hl 3 rfl) ?_
              refine k_ild (v := eI (vB (mWy w2.1) i v)) X hK hP (wC_n2 G w2 hv) (by omega) (by decide) rfl dX2_letAllCome_53 ?_
              refine lv_if_eq (tgt := 86) hx hb dX2_letAllCome_54 (by decide) (fun c_54 => ?_) (fun c_54 => ?_)
              · have hstop : fV (gn G) v i w1 (gn G) = fV (gn G) v i w1 x := by
                  have h := fV_stop (n := gn G) (v := v) (b := i) (u := w1) (i := x) (fun y h1 h2 => by
                    rw [← hw2]
                    have h3 : tI (eI (vB (mWy w2.1) i v)) y = false := by rw [c_54]; simp [tI]
                    rw [tI_eI _ (by omega)] at h3
                    simpa only [vB, decide_eq_true (show y < 10 by omega), Bool.true_and] using h3) (gn G - x) (by omega)
                  rw [show x + (gn G - x) = gn G by omega] at h
                  exact h
                exact join_86 w2 (hiT) (by first | (rw [hw2, show x = gn G by omega]; exact (by rw [hw1])) | (rw [← hw1]; rw [hw2]; exact (hstop).symm)) _ _ _ hP hS (lv_sub hl [0, 1, 2, 3] rfl)
              · refine lv_aload_n hx hb dX2_letAllCome_57 rfl (lv_at hl 1 rfl) ?_
                refine k_gn (v := .ref (gL G (13 + 5 * v))) X hK inX1 rfl hP (wC_n0 G w2 hv) 8 (by decide) ntw_1_92 rfl dX2_letAllCome_58 ?_
                refine lv_iload_n hx hb dX2_letAllCome_61 rfl (lv_at hl 3 rfl) ?_
                refine k_ild (v := eI (vB (mWy w2.1) i v)) X hK hP (wC_n2 G w2 hv) (by omega) (by decide) rfl dX2_letAllCome_62 ?_
                refine lv_i2l (v := (eI (vB (mWy w2.1) i v)).toInt64) hx hb dX2_letAllCome_63 rfl ?_
                refine lv_iload hx hb dX2_letAllCome_64 (lv_at hl 4 rfl) ?_
                refine k_ci (k_runS (As := [.long ((eI (vB (mWy w2.1) i v)).toInt64), .int (nI x)]) (rest := []) X hK hP (m2_holds l G (AC G) (wC G) w2 ((eI (vB (mWy w2.1) i v)).toInt64) (k := x) (by omega)) ⟨rfl, rfl⟩ tw_1_235 tw_1_211 tw_1_1 tw_1_212 ⟨by decide +kernel, by decide +kernel, (by decide +kernel : (parseMethodDescriptor yX2_holds.desc).map (fun d => d.parameters.length) = some 2)⟩ ⟨Nat.le_of_ble_eq_true rfl, Nat.le_of_ble_eq_true rfl⟩ hl.1 rfl (Nat.le_of_ble_eq_true rfl) ⟨Nat.zero_le _, Nat.zero_le _⟩ dX2_letAllCome_66) hS (fun r_66 u_66 H locs hq_66 hP hS => ?_)
                have hP := k_su hq_66.2 hP
                refine k_ti (y := bI (mWy w2.1 (11 * i + 1 + x) v)) (hq_66.1.trans (congrArg bI ((tL_wide _ (by omega)).trans ((tI_eI _ (by omega)).trans (by simp only [vB, decide_eq_true (show x < 10 by omega), Bool.true_and]))))) ?_
                refine lv_if_eq (tgt := 80) hx hb dX2_letAllCome_69 (by decide) (fun c_69 => ?_) (fun c_69 => ?_)
                · have c_69 : (mWy w2.1 (11 * i + 1 + x) v) = false := (bI_eq0 _).mp c_69
                  refine lv_iinc (v := nI (x + 1)) (lv' := [(4, .int (nI (x + 1))), (0, .ref (gL G 0)), (1, .ref (gL G (11 + 5 * v))), (2, .int (nI (mC u.1))), (3, .int (nI i))]) hx hb dX2_letAllCome_80 hl (k := 4) rfl (nI_add x 1) (by decide) rfl (fun ls hl => ?_)
                  refine lv_goto (tgt := 38) hx hb dX2_letAllCome_83 (by decide) ?_
                  exact ih_38 (gn G - (x + 1)) (by omega) (x + 1) w2 rfl (by omega) (by rw [fV, ← hw2, if_neg (by rw [c_69]; decide)]) _ _ _ hP hS (lv_sub hl [1, 2, 3, 4, 0] rfl)
                · have c_69 : (mWy w2.1 (11 * i + 1 + x) v) = true := (bI_ne0 _).mp c_69
                  refine lv_aload_n hx hb dX2_letAllCome_72 rfl (lv_at hl 0 rfl) ?_
                  refine lv_aload_n hx hb dX2_letAllCome_73 rfl (lv_at hl 1 rfl) ?_
                  refine lv_iload hx hb dX2_letAllCome_74 (lv_at hl 4 rfl) ?_
                  refine lv_iload_n hx hb dX2_letAllCome_76 rfl (lv_at hl 3 rfl) ?_
                  refine k_cv (k_runV (As := [.ref (gL G (11 + 5 * v)), .int (nI x), .int (nI i)]) (rest := []) X hK hP (wC_g G w2 (k := 0) (by decide)) rfl (m2_letVoteCome l G w2 hL (hok2) (v := v) hv (b := i) (x := x) (by omega) (show i < mT w2.1 by omega) (by omega)) ⟨rfl, rfl⟩ tw_2_36 tw_2_38 tw_0_20 tw_1_1 tw_2_39 ⟨by decide +kernel, by decide +kernel, (by decide +kernel : (parseMethodDescriptor yX2_letVoteCome.desc).map (fun d => d.parameters.length) = some 3)⟩ ⟨Nat.le_of_ble_eq_true rfl, Nat.le_of_ble_eq_true rfl⟩ hl.1 rfl (Nat.le_of_ble_eq_true rfl) ⟨Nat.zero_le _, Nat.zero_le _⟩ dX2_letAllCome_77) hS (fun u_77 H locs hq_77 hP hS => ?_)
                  have hP := k_su hq_77 hP
                  have ok_77 : okC G ((cLetV (gn G) w2 v x i)) := ok_letV (hok2) (show i < mT w2.1 by omega)
                  refine lv_iinc (v := nI (x + 1)) (lv' := [(4, .int (nI (x + 1))), (0, .ref (gL G 0)), (1, .ref (gL G (11 + 5 * v))), (2, .int (nI (mC u.1))), (3, .int (nI i))]) hx hb dX2_letAllCome_80 hl (k := 4) rfl (nI_add x 1) (by decide) rfl (fun ls hl => ?_)
                  refine lv_goto (tgt := 38) hx hb dX2_letAllCome_83 (by decide) ?_
                  exact ih_38 (gn G - (x + 1)) (by omega) (x + 1) ((cLetV (gn G) w2 v x i)) rfl (by omega) (by rw [fV, ← hw2, if_pos c_69]) _ _ _ hP hS (lv_sub hl [1, 2, 3, 4, 0] rfl)
        exact loop_38 _ 0 w1 rfl (Nat.zero_le _) (rfl) _ _ _ hP hS (lv_sub hl [1, 2, 3, 4, 0] rfl)
      refine lv_iload_n hx hb dX2_letAllCome_7 rfl (lv_at hl 3 rfl) ?_
      refine lv_aload_n hx hb dX2_letAllCome_8 rfl (lv_at hl 0 rfl) ?_
      refine k_get (v := .ref (gL G 3)) X hK inX2 rfl hP (wC_g G w (k := 0) (by decide)) 0 (by decide) tw_1_139 rfl dX2_letAllCome_9 ?_
      refine k_gn (v := .int (nI (mT w.1))) X hK inX0 rfl hP (wC_g G w (k := 3) (by decide)) 7 (by decide) ntw_1_49 rfl dX2_letAllCome_12 ?_
      refine k_ti (congrArg nI hwT) ?_
      refine lv_icmp_ge (tgt := 92) hx hb dX2_letAllCome_15 (by decide) (fun c_15 => ?_) (fun c_15 => ?_)
      · have c_15 : (mT u.1) ≤ i := cLe c_15 (by omega) (by omega)
        refine lv_aload_n hx hb dX2_letAllCome_92 rfl (lv_at hl 0 rfl) ?_
        refine k_get (v := .int (nI (mC w.1))) X hK inX2 rfl hP (wC_g G w (k := 0) (by decide)) 5 (by decide) tw_1_144 rfl dX2_letAllCome_93 ?_
        refine lv_iload_n hx hb dX2_letAllCome_96 rfl (lv_at hl 2 rfl) ?_
        refine lv_isub hx hb dX2_letAllCome_97 ?_
        exact k_reti X hr hlocks hP hS dX2_letAllCome_98 ⟨by rw [cFlow, show mT u.1 - 1 = i - 1 by omega, ← hw], by rw [cFlow, show mT u.1 - 1 = i - 1 by omega, ← hw]⟩
      · have c_15 : i < (mT u.1) := cNle c_15 (by omega) (by omega)
        have hiT : i < mT u.1 := c_15
        refine lv_aload_n hx hb dX2_letAllCome_18 rfl (lv_at hl 1 rfl) ?_
        refine k_gn (v := .long (eL (pB (mWy w.1) v))) X hK inX1 rfl hP (wC_n0 G w hv) 6 (by decide) ntw_1_88 rfl dX2_letAllCome_19 ?_
        refine lv_iload_n hx hb dX2_letAllCome_22 rfl (lv_at hl 3 rfl) ?_
        refine k_ci (k_runS (As := [.long (eL (pB (mWy w.1) v)), .int (nI i)]) (rest := []) X hK hP (m2_holds l G (AC G) (wC G) w (eL (pB (mWy w.1) v)) (k := i) (by omega)) ⟨rfl, rfl⟩ tw_1_235 tw_1_211 tw_1_1 tw_1_212 ⟨by decide +kernel, by decide +kernel, (by decide +kernel : (parseMethodDescriptor yX2_holds.desc).map (fun d => d.parameters.length) = some 2)⟩ ⟨Nat.le_of_ble_eq_true rfl, Nat.le_of_ble_eq_true rfl⟩ hl.1 rfl (Nat.le_of_ble_eq_true rfl) ⟨Nat.zero_le _, Nat.zero_le _⟩ dX2_letAllCome_23) hS (fun r_23 u_23 H locs hq_23 hP hS => ?_)
        have hP := k_su hq_23.2 hP
        refine k_ti (y := bI (mWy w.1 (11 * i) v)) (hq_23.1.trans (congrArg bI (tL_eL _ (by omega)))) ?_
        refine lv_if_eq (tgt := 35) hx hb dX2_letAllCome_26 (by decide) (fun c_26 => ?_) (fun c_26 => ?_)
        · have c_26 : (mWy w.1 (11 * i) v) = false := (bI_eq0 _).mp c_26
          exact join_35 w (hiT) (by rw [fP, if_neg (by rw [c_26]; decide)]) _ _ _ hP hS (lv_sub hl [0, 1, 2, 3] rfl)
        · have c_26 : (mWy w.1 (11 * i) v) = true := (bI_ne0 _).mp c_26
          refine lv_aload_n hx hb dX2_letAllCome_29 rfl (lv_at hl 0 rfl) ?_
          refine lv_aload_n hx hb dX2_letAllCome_30 rfl (lv_at hl 1 rfl) ?_
          refine lv_iload_n hx hb dX2_letAllCome_31 rfl (lv_at hl 3 rfl) ?_
          refine k_cv (k_runV (As := [.ref (gL G (11 + 5 * v)), .int (nI i)]) (rest := []) X hK hP (wC_g G w (k := 0) (by decide)) rfl (m2_letProposalCome l G w hL (hok) (v := v) hv (b := i) (by omega) (show i < mT w.1 by omega)) ⟨rfl, rfl⟩ tw_2_28 tw_2_30 tw_0_19 tw_1_1 tw_2_31 ⟨by decide +kernel, by decide +kernel, (by decide +kernel : (parseMethodDescriptor yX2_letProposalCome.desc).map (fun d => d.parameters.length) = some 2)⟩ ⟨Nat.le_of_ble_eq_true rfl, Nat.le_of_ble_eq_true rfl⟩ hl.1 rfl (Nat.le_of_ble_eq_true rfl) ⟨Nat.zero_le _, Nat.zero_le _⟩ dX2_letAllCome_32) hS (fun u_32 H locs hq_32 hP hS => ?_)
          have hP := k_su hq_32 hP
          have ok_32 : okC G ((cLetP (gn G) w v i)) := ok_letP (hok) (show i < mT w.1 by omega)
          exact join_35 ((cLetP (gn G) w v i)) (hiT) (by rw [fP, if_pos c_26]) _ _ _ hP hS (lv_sub hl [0, 1, 2, 3] rfl)
  exact loop_7 _ 1 u rfl (Nat.le_refl _) (kT1) (rfl) _ _ _ hP hS (lv_sub hl [2, 3, 1, 0] rfl)

set_option maxHeartbeats 4000000 in
set_option maxRecDepth 100000 in
theorem m2_makeOnTip (l : Launch) (G : kG) (u : CS) (hL : lay G) (hk : okC G u) {v : Nat} (hv : v < gn G) (hT60 : mT u.1 ≤ 60) : KMv l G (AC G) (wC G) yX2_makeOnTip cX2_makeOnTip 4 (Option.none : Option FieldType) ({ frames := 4, cells := 0, slots := 0, locals := 93 }) [.ref (gL G 0), .ref (gL G (11 + 5 * v))] u (fun u' => u' = cMakeOnTip (gn G) u v) := by
  refine K_of (by decide) (Nat.le_of_ble_eq_true rfl) ?_
  intro p e s m below meth c X hr hlocks hnm hK hP ls hl
  have hx := X.1
  have hb := X.2.1
  have hown := X.2.2.2.1
  have hts := X.2.2.2.2
  have hS : va_S (AC G) s.heap s.heap [] := va_S.rf
  have hl : lv_has ls 4 [(0, .ref (gL G 0)), (1, .ref (gL G (11 + 5 * v)))] := hl
  obtain ⟨kn4, kn10, kT1, kT61, kP40, kLd, kPar, kEp, kHt, kFc, kVf, kTp, kHf⟩ := id hk
  have hTv := kTp v
  refine lv_aload_n hx hb dX2_makeOnTip_0 rfl (lv_at hl 1 rfl) ?_
  refine k_gn (v := .int ((mWi u.1) v)) X hK inX1 rfl hP (wC_n0 G u hv) 4 (by decide) ntw_1_84 rfl dX2_makeOnTip_1 ?_
  refine lv_aload_n hx hb dX2_makeOnTip_4 rfl (lv_at hl 0 rfl) ?_
  refine k_get (v := .ref (gL G 3)) X hK inX2 rfl hP (wC_g G u (k := 0) (by decide)) 0 (by decide) tw_1_139 rfl dX2_makeOnTip_5 ?_
  refine k_gn (v := .ref (gL G 10)) X hK inX0 rfl hP (wC_g G u (k := 3) (by decide)) 6 (by decide) ntw_1_46 rfl dX2_makeOnTip_8 ?_
  refine lv_aload_n hx hb dX2_makeOnTip_11 rfl (lv_at hl 1 rfl) ?_
  refine k_gn (v := .int (nI ((xTp u.2) v))) X hK inX1 rfl hP (wC_n0 G u hv) 14 (by decide) ntw_1_103 rfl dX2_makeOnTip_12 ?_
  refine k_ild (v := xCl u.2 ((xTp u.2) v)) X hK hP (wC_g G u (k := 10) (by decide)) (by omega) (by decide) rfl dX2_makeOnTip_15 ?_
  refine lv_iconst (v := -1) hx hb dX2_makeOnTip_16 (by decide) ?_
  refine lv_ixor hx hb dX2_makeOnTip_17 ?_
  refine lv_iand hx hb dX2_makeOnTip_18 ?_
  refine lv_istore_n (lv' := [(2, .int (((mWi u.1) v) &&& ((xCl u.2 ((xTp u.2) v)) ^^^ (-1)))), (0, .ref (gL G 0)), (1, .ref (gL G (11 + 5 * v)))]) hx hb dX2_makeOnTip_19 rfl hl (by decide) rfl (fun ls hl => ?_)
  refine lv_aload_n hx hb dX2_makeOnTip_20 rfl (lv_at hl 1 rfl) ?_
  refine k_get (v := .ref (gL G 3)) X hK inX2 rfl hP (wC_g G u (k := 0) (by decide)) 0 (by decide) tw_1_139 rfl dX2_makeOnTip_21 ?_
  refine lv_aload_n hx hb dX2_makeOnTip_24 rfl (lv_at hl 2 rfl) ?_
  refine k_gn (v := .int (nI ((xTp u.2) v))) X hK inX1 rfl hP (wC_n0 G u hv) 14 (by decide) ntw_1_103 rfl dX2_makeOnTip_25 ?_
  refine lv_aload_n hx hb dX2_makeOnTip_28 rfl (lv_at hl 1 rfl) ?_
  refine k_get (v := .int (nI (mP u.1))) X hK inX2 rfl hP (wC_g G u (k := 0) (by decide)) 3 (by decide) tw_1_142 rfl dX2_makeOnTip_29 ?_
  refine lv_iload_n hx hb dX2_makeOnTip_32 rfl (lv_at hl 0 rfl) ?_
  refine lv_aload_n hx hb dX2_makeOnTip_33 rfl (lv_at hl 2 rfl) ?_
  refine k_gn (v := .int (nI v)) X hK inX1 rfl hP (wC_n0 G u hv) 0 (by decide) ntw_1_80 rfl dX2_makeOnTip_34 ?_
  refine k_ci (k_runN (As := [.int (nI ((xTp u.2) v)), .int (nI (mP u.1)), .int (((mWi u.1) v) &&& ((xCl u.2 ((xTp u.2) v)) ^^^ (-1))), .int (nI v)]) (rest := []) X hK hP (wC_g G u (k := 3) (by decide)) rfl (m0_make l G u hL (hk) (o := ((xTp u.2) v)) (e0 := (mP u.1)) (v := v) (by omega) (by omega) (by omega) (((mWi u.1) v) &&& ((xCl u.2 ((xTp u.2) v)) ^^^ (-1)))) ⟨rfl, rfl⟩ ntw_1_193 tw_1_195 tw_0_4 tw_1_3 tw_1_196 ⟨by decide +kernel, by decide +kernel, (by decide +kernel : (parseMethodDescriptor yX0_make.desc).map (fun d => d.parameters.length) = some 4)⟩ ⟨Nat.le_of_ble_eq_true rfl, Nat.le_of_ble_eq_true rfl⟩ hl.1 rfl (Nat.le_of_ble_eq_true rfl) ⟨Nat.zero_le _, Nat.zero_le _⟩ dX2_makeOnTip_37) hS (fun r_37 u_37 H locs hq_37 hP hS => ?_)
  have hP := k_su hq_37.2 hP
  refine k_ti hq_37.1 ?_
  have ok_37 : okC G ((cMake u ((xTp u.2) v) (mP u.1) (((mWi u.1) v) &&& ((xCl u.2 ((xTp u.2) v)) ^^^ (-1))) v)) := ok_make (hk) _ (by omega) (by omega) (by omega)
  refine lv_istore_n (lv' := [(3, .int (nI (mT u.1))), (2, .int (((mWi u.1) v) &&& ((xCl u.2 ((xTp u.2) v)) ^^^ (-1)))), (0, .ref (gL G 0)), (1, .ref (gL G (11 + 5 * v)))]) hx hb dX2_makeOnTip_40 rfl hl (by decide) rfl (fun ls hl => ?_)
  refine lv_aload_n hx hb dX2_makeOnTip_41 rfl (lv_at hl 2 rfl) ?_
  refine lv_aload_n hx hb dX2_makeOnTip_42 rfl (lv_at hl 3 rfl) ?_
  refine lv_iload_n hx hb dX2_makeOnTip_43 rfl (lv_at hl 0 rfl) ?_
  refine k_cv (k_runV (As := [.ref (gL G (11 + 5 * v)), .int (nI (mT u.1))]) (rest := []) X hK hP (wC_g G ((cMake u ((xTp u.2) v) (mP u.1) (((mWi u.1) v) &&& ((xCl u.2 ((xTp u.2) v)) ^^^ (-1))) v)) (k := 0) (by decide)) rfl (m2_takeProposal l G ((cMake u ((xTp u.2) v) (mP u.1) (((mWi u.1) v) &&& ((xCl u.2 ((xTp u.2) v)) ^^^ (-1))) v)) hL (ok_37) (v := v) hv (b := (mT u.1)) (by omega) (show mT u.1 < mT u.1 + 1 by omega)) ⟨rfl, rfl⟩ tw_1_197 tw_1_199 tw_0_5 tw_1_1 tw_1_200 ⟨by decide +kernel, by decide +kernel, (by decide +kernel : (parseMethodDescriptor yX2_takeProposal.desc).map (fun d => d.parameters.length) = some 2)⟩ ⟨Nat.le_of_ble_eq_true rfl, Nat.le_of_ble_eq_true rfl⟩ hl.1 rfl (Nat.le_of_ble_eq_true rfl) ⟨Nat.zero_le _, Nat.zero_le _⟩ dX2_makeOnTip_44) hS (fun u_44 H locs hq_44 hP hS => ?_)
  have hP := k_su hq_44 hP
  have ok_44 : okC G ((cTakeP (gn G) ((cMake u ((xTp u.2) v) (mP u.1) (((mWi u.1) v) &&& ((xCl u.2 ((xTp u.2) v)) ^^^ (-1))) v)) v (mT u.1))) := ok_takeP (ok_37) (show mT u.1 < mT u.1 + 1 by omega)
  exact k_retv X hr hlocks hP hS dX2_makeOnTip_47 rfl

set_option maxHeartbeats 4000000 in
set_option maxRecDepth 100000 in
theorem m2_falseNodes (l : Launch) (G : kG) (u : CS) (hL : lay G) (hk : okC G u) : KMi l G (AC G) (wC G) yX2_falseNodes cX2_falseNodes 6 (Option.some FieldType.int) ({ frames := 0, cells := 0, slots := 0, locals := 0 }) [.ref (gL G 0)] u (fun r u' => r = nI (cnt (mFa u.1) (gn G)) ∧ u' = u) := by
  refine K_of (by decide) (Nat.le_of_ble_eq_true rfl) ?_
  intro p e s m below meth c X hr hlocks hnm hK hP ls hl
  have hx := X.1
  have hb := X.2.1
  have hown := X.2.2.2.1
  have hts := X.2.2.2.2
  have hS : va_S (AC G) s.heap s.heap [] := va_S.rf
  have hl : lv_has ls 6 [(0, .ref (gL G 0))] := hl
  obtain ⟨kn4, kn10, kT1, kT61, kP40, kLd, kPar, kEp, kHt, kFc, kVf, kTp, kHf⟩ := id hk
  refine lv_iconst (v := nI 0) hx hb dX2_falseNodes_0 (by decide) ?_
  refine lv_istore_n (lv' := [(1, .int (nI 0)), (0, .ref (gL G 0))]) hx hb dX2_falseNodes_1 rfl hl (by decide) rfl (fun ls hl => ?_)
  refine lv_aload_n hx hb dX2_falseNodes_2 rfl (lv_at hl 1 rfl) ?_
  refine k_get (v := .ref (gL G 1)) X hK inX2 rfl hP (wC_g G u (k := 0) (by decide)) 1 (by decide) tw_1_140 rfl dX2_falseNodes_3 ?_
  refine lv_astore_n (lv' := [(2, .ref (gL G 1)), (1, .int (nI 0)), (0, .ref (gL G 0))]) hx hb dX2_falseNodes_6 rfl hl (by decide) rfl (fun ls hl => ?_)
  refine lv_aload_n hx hb dX2_falseNodes_7 rfl (lv_at hl 0 rfl) ?_
  refine k_len X hK hP (wC_g G u (k := 1) (by decide)) dX2_falseNodes_8 ?_
  refine lv_istore_n (lv' := [(3, .int (nI (gn G))), (2, .ref (gL G 1)), (1, .int (nI 0)), (0, .ref (gL G 0))]) hx hb dX2_falseNodes_9 rfl hl (by decide) rfl (fun ls hl => ?_)
  refine lv_iconst (v := nI 0) hx hb dX2_falseNodes_10 (by decide) ?_
  refine lv_istore (lv' := [(4, .int (nI 0)), (3, .int (nI (gn G))), (2, .ref (gL G 1)), (1, .int (nI 0)), (0, .ref (gL G 0))]) hx hb dX2_falseNodes_11 hl (by decide) rfl (fun ls hl => ?_)
  have loop_13 : ∀ (d_13 : Nat) (i : Nat), gn G - i = d_13 → (i ≤ gn G) → ∀ (H : Heap) (locs : List Loc) (ls : Array Slot), va_P (gD G) vwCl ((wC G) u) H → va_S (AC G) s.heap H locs → lv_has ls 6 [(0, .ref (gL G 0)), (1, .int (nI (cnt (mFa u.1) i))), (2, .ref (gL G 1)), (3, .int (nI (gn G))), (4, .int (nI i))] → W p l e ({ frames := 0, cells := 0, slots := 0, locals := 0 } : Room) s m ([.ref (gL G 0)] : List Value).toArray below meth c H locs 0 0 (MQ below (va_Qi (fun r u' => r = nI (cnt (mFa u.1) (gn G)) ∧ u' = u) (KB G (wC G)) (AC G)) ([.ref (gL G 0)] : List Value).toArray s 0 0 (AC G)) (F0 m 13 ls []) := by
    intro d_13
    induction d_13 using Nat.strongRecOn with
    | ind d_13 ih_13 =>
      intro i hd_13 hi H locs ls hP hS hl
      refine lv_iload hx hb dX2_falseNodes_13 (lv_at hl 4 rfl) ?_
      refine lv_iload_n hx hb dX2_falseNodes_15 rfl (lv_at hl 3 rfl) ?_
      refine lv_icmp_ge (tgt := 42) hx hb dX2_falseNodes_16 (by decide) (fun c_16 => ?_) (fun c_16 => ?_)
      · have c_16 : (gn G) ≤ i := cLe c_16 (by omega) (by omega)
        refine lv_iload_n hx hb dX2_falseNodes_42 rfl (lv_at hl 1 rfl) ?_
        exact k_reti X hr hlocks hP hS dX2_falseNodes_43 ⟨by rw [show i = gn G by omega], rfl⟩
      · have c_16 : i < (gn G) := cNle c_16 (by omega) (by omega)
        refine lv_aload_n hx hb dX2_falseNodes_19 rfl (lv_at hl 2 rfl) ?_
        refine lv_iload hx hb dX2_falseNodes_20 (lv_at hl 4 rfl) ?_
        refine k_ald (v := gL G (11 + 5 * i)) X hK hP (wC_g G u (k := 1) (by decide)) (by omega) (by omega) rfl dX2_falseNodes_22 ?_
        refine lv_astore (lv' := [(5, .ref (gL G (11 + 5 * i))), (0, .ref (gL G 0)), (1, .int (nI (cnt (mFa u.1) i))), (2, .ref (gL G 1)), (3, .int (nI (gn G))), (4, .int (nI i))]) hx hb dX2_falseNodes_23 hl (by decide) rfl (fun ls hl => ?_)
        refine lv_aload hx hb dX2_falseNodes_25 (lv_at hl 0 rfl) ?_
        refine k_gn (v := .int (bI ((mFa u.1) i))) X hK inX1 rfl hP (wC_n0 G u (by omega)) 3 (by decide) ntw_1_83 rfl dX2_falseNodes_27 ?_
        refine lv_if_eq (tgt := 36) hx hb dX2_falseNodes_30 (by decide) (fun c_30 => ?_) (fun c_30 => ?_)
        · have c_30 : ((mFa u.1) i) = false := (bI_eq0 _).mp c_30
          have hl : lv_has ls 6 [(5, .ref (gL G (11 + 5 * i))), (0, .ref (gL G 0)), (1, .int (nI (cnt (mFa u.1) (i + 1)))), (2, .ref (gL G 1)), (3, .int (nI (gn G))), (4, .int (nI i))] := by rw [cnt, c_30]; exact hl
          refine lv_iinc (v := nI (i + 1)) (lv' := [(4, .int (nI (i + 1))), (5, .ref (gL G (11 + 5 * i))), (0, .ref (gL G 0)), (1, .int (nI (cnt (mFa u.1) (i + 1)))), (2, .ref (gL G 1)), (3, .int (nI (gn G)))]) hx hb dX2_falseNodes_36 hl (k := 5) rfl (nI_add i 1) (by decide) rfl (fun ls hl => ?_)
          refine lv_goto (tgt := 13) hx hb dX2_falseNodes_39 (by decide) ?_
          exact ih_13 (gn G - (i + 1)) (by omega) (i + 1) rfl (by omega) _ _ _ hP hS (lv_sub hl [2, 3, 4, 5, 0] rfl)
        · have c_30 : ((mFa u.1) i) = true := (bI_ne0 _).mp c_30
          refine lv_iinc (v := nI (cnt (mFa u.1) i + 1)) (lv' := [(1, .int (nI (cnt (mFa u.1) i + 1))), (5, .ref (gL G (11 + 5 * i))), (0, .ref (gL G 0)), (2, .ref (gL G 1)), (3, .int (nI (gn G))), (4, .int (nI i))]) hx hb dX2_falseNodes_33 hl (k := 2) rfl (nI_add (cnt (mFa u.1) i) 1) (by decide) rfl (fun ls hl => ?_)
          have hl : lv_has ls 6 [(1, .int (nI (cnt (mFa u.1) (i + 1)))), (5, .ref (gL G (11 + 5 * i))), (0, .ref (gL G 0)), (2, .ref (gL G 1)), (3, .int (nI (gn G))), (4, .int (nI i))] := by rw [cnt, c_30]; exact hl
          refine lv_iinc (v := nI (i + 1)) (lv' := [(4, .int (nI (i + 1))), (1, .int (nI (cnt (mFa u.1) (i + 1)))), (5, .ref (gL G (11 + 5 * i))), (0, .ref (gL G 0)), (2, .ref (gL G 1)), (3, .int (nI (gn G)))]) hx hb dX2_falseNodes_36 hl (k := 5) rfl (nI_add i 1) (by decide) rfl (fun ls hl => ?_)
          refine lv_goto (tgt := 13) hx hb dX2_falseNodes_39 (by decide) ?_
          exact ih_13 (gn G - (i + 1)) (by omega) (i + 1) rfl (by omega) _ _ _ hP hS (lv_sub hl [3, 1, 4, 5, 0] rfl)
  exact loop_13 _ 0 rfl (Nat.zero_le _) _ _ _ hP hS (lv_sub hl [4, 3, 2, 1, 0] rfl)

set_option maxHeartbeats 4000000 in
set_option maxRecDepth 100000 in
theorem m2_lettersUnderWay (l : Launch) (G : kG) (u : CS) (hL : lay G) (hk : okC G u) : KMi l G (AC G) (wC G) yX2_lettersUnderWay cX2_lettersUnderWay 7 (Option.some FieldType.int) ({ frames := 1, cells := 0, slots := 0, locals := 21 }) [.ref (gL G 0)] u (fun r u' => r = nI (uwN u.1 (gn G)) ∧ u' = u) := by
  refine K_of (by decide) (Nat.le_of_ble_eq_true rfl) ?_
  intro p e s m below meth c X hr hlocks hnm hK hP ls hl
  have hx := X.1
  have hb := X.2.1
  have hown := X.2.2.2.1
  have hts := X.2.2.2.2
  have hS : va_S (AC G) s.heap s.heap [] := va_S.rf
  have hl : lv_has ls 7 [(0, .ref (gL G 0))] := hl
  obtain ⟨kn4, kn10, kT1, kT61, kP40, kLd, kPar, kEp, kHt, kFc, kVf, kTp, kHf⟩ := id hk
  refine lv_iconst (v := nI 0) hx hb dX2_lettersUnderWay_0 (by decide) ?_
  refine lv_istore_n (lv' := [(1, .int (nI 0)), (0, .ref (gL G 0))]) hx hb dX2_lettersUnderWay_1 rfl hl (by decide) rfl (fun ls hl => ?_)
  refine lv_aload_n hx hb dX2_lettersUnderWay_2 rfl (lv_at hl 1 rfl) ?_
  refine k_get (v := .ref (gL G 1)) X hK inX2 rfl hP (wC_g G u (k := 0) (by decide)) 1 (by decide) tw_1_140 rfl dX2_lettersUnderWay_3 ?_
  refine lv_astore_n (lv' := [(2, .ref (gL G 1)), (1, .int (nI 0)), (0, .ref (gL G 0))]) hx hb dX2_lettersUnderWay_6 rfl hl (by decide) rfl (fun ls hl => ?_)
  refine lv_aload_n hx hb dX2_lettersUnderWay_7 rfl (lv_at hl 0 rfl) ?_
  refine k_len X hK hP (wC_g G u (k := 1) (by decide)) dX2_lettersUnderWay_8 ?_
  refine lv_istore_n (lv' := [(3, .int (nI (gn G))), (2, .ref (gL G 1)), (1, .int (nI 0)), (0, .ref (gL G 0))]) hx hb dX2_lettersUnderWay_9 rfl hl (by decide) rfl (fun ls hl => ?_)
  refine lv_iconst (v := nI 0) hx hb dX2_lettersUnderWay_10 (by decide) ?_
  refine lv_istore (lv' := [(4, .int (nI 0)), (3, .int (nI (gn G))), (2, .ref (gL G 1)), (1, .int (nI 0)), (0, .ref (gL G 0))]) hx hb dX2_lettersUnderWay_11 hl (by decide) rfl (fun ls hl => ?_)
  have loop_13 : ∀ (d_13 : Nat) (i : Nat), gn G - i = d_13 → (i ≤ gn G) → ∀ (H : Heap) (locs : List Loc) (ls : Array Slot), va_P (gD G) vwCl ((wC G) u) H → va_S (AC G) s.heap H locs → lv_has ls 7 [(0, .ref (gL G 0)), (1, .int (nI (uwN u.1 i))), (2, .ref (gL G 1)), (3, .int (nI (gn G))), (4, .int (nI i))] → W p l e ({ frames := 1, cells := 0, slots := 0, locals := 21 } : Room) s m ([.ref (gL G 0)] : List Value).toArray below meth c H locs 0 0 (MQ below (va_Qi (fun r u' => r = nI (uwN u.1 (gn G)) ∧ u' = u) (KB G (wC G)) (AC G)) ([.ref (gL G 0)] : List Value).toArray s 0 0 (AC G)) (F0 m 13 ls []) := by
    intro d_13
    induction d_13 using Nat.strongRecOn with
    | ind d_13 ih_13 =>
      intro i hd_13 hi H locs ls hP hS hl
      refine lv_iload hx hb dX2_lettersUnderWay_13 (lv_at hl 4 rfl) ?_
      refine lv_iload_n hx hb dX2_lettersUnderWay_15 rfl (lv_at hl 3 rfl) ?_
      refine lv_icmp_ge (tgt := 77) hx hb dX2_lettersUnderWay_16 (by decide) (fun c_16 => ?_) (fun c_16 => ?_)
      · have c_16 : (gn G) ≤ i := cLe c_16 (by omega) (by omega)
        refine lv_iload_n hx hb dX2_lettersUnderWay_77 rfl (lv_at hl 1 rfl) ?_
        exact k_reti X hr hlocks hP hS dX2_lettersUnderWay_78 ⟨by rw [show i = gn G by omega], rfl⟩
      · have c_16 : i < (gn G) := cNle c_16 (by omega) (by omega)
        refine lv_aload_n hx hb dX2_lettersUnderWay_19 rfl (lv_at hl 2 rfl) ?_
        refine lv_iload hx hb dX2_lettersUnderWay_20 (lv_at hl 4 rfl) ?_
        refine k_ald (v := gL G (11 + 5 * i)) X hK hP (wC_g G u (k := 1) (by decide)) (by omega) (by omega) rfl dX2_lettersUnderWay_22 ?_
        refine lv_astore (lv' := [(5, .ref (gL G (11 + 5 * i))), (0, .ref (gL G 0)), (1, .int (nI (uwN u.1 i))), (2, .ref (gL G 1)), (3, .int (nI (gn G))), (4, .int (nI i))]) hx hb dX2_lettersUnderWay_23 hl (by decide) rfl (fun ls hl => ?_)
        refine lv_iload_n hx hb dX2_lettersUnderWay_25 rfl (lv_at hl 2 rfl) ?_
        refine lv_aload hx hb dX2_lettersUnderWay_26 (lv_at hl 0 rfl) ?_
        refine k_gn (v := .long (eL (pB (mWy u.1) i))) X hK inX1 rfl hP (wC_n0 G u (by omega)) 6 (by decide) ntw_1_88 rfl dX2_lettersUnderWay_28 ?_
        refine k_ci (k_runS (As := [.long (eL (pB (mWy u.1) i))]) (rest := [.int (nI (uwN u.1 i))]) X hK hP (mJ_bc64 l G (AC G) (wC G) u (eL (pB (mWy u.1) i))) ⟨rfl, rfl⟩ tw_2_60 tw_2_61 tw_1_8 tw_2_62 ⟨by decide +kernel, by decide +kernel, (by decide +kernel : (parseMethodDescriptor yJ13_bitCount_95d88.desc).map (fun d => d.parameters.length) = some 1)⟩ ⟨Nat.le_of_ble_eq_true rfl, Nat.le_of_ble_eq_true rfl⟩ hl.1 rfl (Nat.le_of_ble_eq_true rfl) ⟨Nat.zero_le _, Nat.zero_le _⟩ dX2_lettersUnderWay_31) hS (fun r_31 u_31 H locs hq_31 hP hS => ?_)
        have hP := k_su hq_31.2 hP
        refine k_ti (y := nI (cnt (pB (mWy u.1) i) 64)) (hq_31.1.trans (congrArg nI (cnt_pB _ _))) ?_
        refine lv_iadd hx hb dX2_lettersUnderWay_34 ?_
        refine k_ti (nI_add (uwN u.1 i) (cnt (pB (mWy u.1) i) 64)) ?_
        refine k_ti (congrArg nI (show uwN u.1 i + cnt (pB (mWy u.1) i) 64 = uwN u.1 i + (cnt (pB (mWy u.1) i) 64 + uwB u.1 i 0) from rfl)) ?_
        refine lv_istore_n (lv' := [(1, .int (nI (uwN u.1 i + (cnt (pB (mWy u.1) i) 64 + uwB u.1 i 0)))), (5, .ref (gL G (11 + 5 * i))), (0, .ref (gL G 0)), (2, .ref (gL G 1)), (3, .int (nI (gn G))), (4, .int (nI i))]) hx hb dX2_lettersUnderWay_35 rfl hl (by decide) rfl (fun ls hl => ?_)
        refine lv_iconst (v := nI 0) hx hb dX2_lettersUnderWay_36 (by decide) ?_
        refine lv_istore (lv' := [(6, .int (nI 0)), (1, .int (nI (uwN u.1 i + (cnt (pB (mWy u.1) i) 64 + uwB u.1 i 0)))), (5, .ref (gL G (11 + 5 * i))), (0, .ref (gL G 0)), (2, .ref (gL G 1)), (3, .int (nI (gn G))), (4, .int (nI i))]) hx hb dX2_lettersUnderWay_37 hl (by decide) rfl (fun ls hl => ?_)
        have loop_39 : ∀ (d_39 : Nat) (b : Nat), mT u.1 - b = d_39 → (b ≤ mT u.1) → ∀ (H : Heap) (locs : List Loc) (ls : Array Slot), va_P (gD G) vwCl ((wC G) u) H → va_S (AC G) s.heap H locs → lv_has ls 7 [(0, .ref (gL G 0)), (1, .int (nI (uwN u.1 i + (cnt (pB (mWy u.1) i) 64 + uwB u.1 i b)))), (2, .ref (gL G 1)), (3, .int (nI (gn G))), (4, .int (nI i)), (5, .ref (gL G (11 + 5 * i))), (6, .int (nI b))] → W p l e ({ frames := 1, cells := 0, slots := 0, locals := 21 } : Room) s m ([.ref (gL G 0)] : List Value).toArray below meth c H locs 0 0 (MQ below (va_Qi (fun r u' => r = nI (uwN u.1 (gn G)) ∧ u' = u) (KB G (wC G)) (AC G)) ([.ref (gL G 0)] : List Value).toArray s 0 0 (AC G)) (F0 m 39 ls []) := by
          intro d_39
          induction d_39 using Nat.strongRecOn with
          | ind d_39 ih_39 =>
            intro b hd_39 hbT H locs ls hP hS hl
            refine lv_iload hx hb dX2_lettersUnderWay_39 (lv_at hl 6 rfl) ?_
            refine lv_aload_n hx hb dX2_lettersUnderWay_41 rfl (lv_at hl 0 rfl) ?_
            refine k_get (v := .ref (gL G 3)) X hK inX2 rfl hP (wC_g G u (k := 0) (by decide)) 0 (by decide) tw_1_139 rfl dX2_lettersUnderWay_42 ?_
            refine k_gn (v := .int (nI (mT u.1))) X hK inX0 rfl hP (wC_g G u (k := 3) (by decide)) 7 (by decide) ntw_1_49 rfl dX2_lettersUnderWay_45 ?_
            refine lv_icmp_ge (tgt := 71) hx hb dX2_lettersUnderWay_48 (by decide) (fun c_48 => ?_) (fun c_48 => ?_)
            · have c_48 : (mT u.1) ≤ b := cLe c_48 (by omega) (by omega)
              have hl : lv_has ls 7 [(0, .ref (gL G 0)), (1, .int (nI (uwN u.1 (i + 1)))), (2, .ref (gL G 1)), (3, .int (nI (gn G))), (4, .int (nI i)), (5, .ref (gL G (11 + 5 * i))), (6, .int (nI b))] := by rw [uwN, show mT u.1 = b by omega]; exact hl
              refine lv_iinc (v := nI (i + 1)) (lv' := [(4, .int (nI (i + 1))), (0, .ref (gL G 0)), (1, .int (nI (uwN u.1 (i + 1)))), (2, .ref (gL G 1)), (3, .int (nI (gn G))), (5, .ref (gL G (11 + 5 * i))), (6, .int (nI b))]) hx hb dX2_lettersUnderWay_71 hl (k := 4) rfl (nI_add i 1) (by decide) rfl (fun ls hl => ?_)
              refine lv_goto (tgt := 13) hx hb dX2_lettersUnderWay_74 (by decide) ?_
              exact ih_13 (gn G - (i + 1)) (by omega) (i + 1) rfl (by omega) _ _ _ hP hS (lv_sub hl [1, 2, 3, 4, 0] rfl)
            · have c_48 : b < (mT u.1) := cNle c_48 (by omega) (by omega)
              refine lv_iload_n hx hb dX2_lettersUnderWay_51 rfl (lv_at hl 1 rfl) ?_
              refine lv_aload hx hb dX2_lettersUnderWay_52 (lv_at hl 5 rfl) ?_
              refine k_gn (v := .ref (gL G (13 + 5 * i))) X hK inX1 rfl hP (wC_n0 G u (by omega)) 8 (by decide) ntw_1_92 rfl dX2_lettersUnderWay_54 ?_
              refine lv_iload hx hb dX2_lettersUnderWay_57 (lv_at hl 6 rfl) ?_
              refine k_ild (v := eI (vB (mWy u.1) b i)) X hK hP (wC_n2 G u (by omega)) (by omega) (by decide) rfl dX2_lettersUnderWay_59 ?_
              refine k_ci (k_runS (As := [.int (eI (vB (mWy u.1) b i))]) (rest := [.int (nI (uwN u.1 i + (cnt (pB (mWy u.1) i) 64 + uwB u.1 i b)))]) X hK hP (mJ_bc32 l G (AC G) (wC G) u (eI (vB (mWy u.1) b i))) ⟨rfl, rfl⟩ tw_2_66 tw_1_214 tw_1_7 tw_1_215 ⟨by decide +kernel, by decide +kernel, (by decide +kernel : (parseMethodDescriptor yJ6_bitCount_0f7a4.desc).map (fun d => d.parameters.length) = some 1)⟩ ⟨Nat.le_of_ble_eq_true rfl, Nat.le_of_ble_eq_true rfl⟩ hl.1 rfl (Nat.le_of_ble_eq_true rfl) ⟨Nat.zero_le _, Nat.zero_le _⟩ dX2_lettersUnderWay_60) hS (fun r_60 u_60 H locs hq_60 hP hS => ?_)
              have hP := k_su hq_60.2 hP
              refine k_ti (y := nI (cnt (fun x => mWy u.1 (11 * b + 1 + x) i) 10)) (hq_60.1.trans (congrArg nI (cnt_vB _ _ _))) ?_
              refine lv_iadd hx hb dX2_lettersUnderWay_63 ?_
              refine k_ti (nI_add (uwN u.1 i + (cnt (pB (mWy u.1) i) 64 + uwB u.1 i b)) (cnt (fun x => mWy u.1 (11 * b + 1 + x) i) 10)) ?_
              refine k_ti (congrArg nI (show _ = uwN u.1 i + (cnt (pB (mWy u.1) i) 64 + uwB u.1 i (b + 1)) by rw [uwB]; omega)) ?_
              refine lv_istore_n (lv' := [(1, .int (nI (uwN u.1 i + (cnt (pB (mWy u.1) i) 64 + uwB u.1 i (b + 1))))), (0, .ref (gL G 0)), (2, .ref (gL G 1)), (3, .int (nI (gn G))), (4, .int (nI i)), (5, .ref (gL G (11 + 5 * i))), (6, .int (nI b))]) hx hb dX2_lettersUnderWay_64 rfl hl (by decide) rfl (fun ls hl => ?_)
              refine lv_iinc (v := nI (b + 1)) (lv' := [(6, .int (nI (b + 1))), (1, .int (nI (uwN u.1 i + (cnt (pB (mWy u.1) i) 64 + uwB u.1 i (b + 1))))), (0, .ref (gL G 0)), (2, .ref (gL G 1)), (3, .int (nI (gn G))), (4, .int (nI i)), (5, .ref (gL G (11 + 5 * i)))]) hx hb dX2_lettersUnderWay_65 hl (k := 6) rfl (nI_add b 1) (by decide) rfl (fun ls hl => ?_)
              refine lv_goto (tgt := 39) hx hb dX2_lettersUnderWay_68 (by decide) ?_
              exact ih_39 (mT u.1 - (b + 1)) (by omega) (b + 1) rfl (by omega) _ _ _ hP hS (lv_sub hl [2, 1, 3, 4, 5, 6, 0] rfl)
        exact loop_39 _ 0 rfl (Nat.zero_le _) _ _ _ hP hS (lv_sub hl [3, 1, 4, 5, 6, 2, 0] rfl)
  exact loop_13 _ 0 rfl (Nat.zero_le _) _ _ _ hP hS (lv_sub hl [4, 3, 2, 1, 0] rfl)

set_option maxHeartbeats 4000000 in
set_option maxRecDepth 100000 in
theorem m2_areInLine (l : Launch) (G : kG) (u : CS) (hL : lay G) (hk : okC G u) {a0 b0 : Nat} (ha0 : a0 ≤ 60) (hb0 : b0 ≤ 60) : KMi l G (AC G) (wC G) yX2_areInLine cX2_areInLine 3 (Option.some FieldType.boolean) ({ frames := 1, cells := 0, slots := 0, locals := 22 }) [.ref (gL G 0), .int (nI a0), .int (nI b0)] u (fun r u' => r = bI (xCh u.2 a0 b0 || xCh u.2 b0 a0) ∧ u' = u) := by
  refine K_of (by decide) (Nat.le_of_ble_eq_true rfl) ?_
  intro p e s m below meth c X hr hlocks hnm hK hP ls hl
  have hx := X.1
  have hb := X.2.1
  have hown := X.2.2.2.1
  have hts := X.2.2.2.2
  have hS : va_S (AC G) s.heap s.heap [] := va_S.rf
  have hl : lv_has ls 3 [(0, .ref (gL G 0)), (1, .int (nI a0)), (2, .int (nI b0))] := hl
  obtain ⟨kn4, kn10, kT1, kT61, kP40, kLd, kPar, kEp, kHt, kFc, kVf, kTp, kHf⟩ := id hk
  refine lv_aload_n hx hb dX2_areInLine_0 rfl (lv_at hl 0 rfl) ?_
  refine k_get (v := .ref (gL G 3)) X hK inX2 rfl hP (wC_g G u (k := 0) (by decide)) 0 (by decide) tw_1_139 rfl dX2_areInLine_1 ?_
  refine k_gn (v := .ref (gL G 9)) X hK inX0 rfl hP (wC_g G u (k := 3) (by decide)) 5 (by decide) ntw_1_44 rfl dX2_areInLine_4 ?_
  refine lv_iload_n hx hb dX2_areInLine_7 rfl (lv_at hl 1 rfl) ?_
  refine k_lld (v := eL (xCh u.2 a0)) X hK hP (wC_g G u (k := 9) (by decide)) (by omega) (by decide) rfl dX2_areInLine_8 ?_
  refine lv_iload_n hx hb dX2_areInLine_9 rfl (lv_at hl 2 rfl) ?_
  refine k_ci (k_runS (As := [.long (eL (xCh u.2 a0)), .int (nI b0)]) (rest := []) X hK hP (m2_holds l G (AC G) (wC G) u (eL (xCh u.2 a0)) (k := b0) (by omega)) ⟨rfl, rfl⟩ tw_1_235 tw_1_211 tw_1_1 tw_1_212 ⟨by decide +kernel, by decide +kernel, (by decide +kernel : (parseMethodDescriptor yX2_holds.desc).map (fun d => d.parameters.length) = some 2)⟩ ⟨Nat.le_of_ble_eq_true rfl, Nat.le_of_ble_eq_true rfl⟩ hl.1 rfl (Nat.le_of_ble_eq_true rfl) ⟨Nat.zero_le _, Nat.zero_le _⟩ dX2_areInLine_10) hS (fun r_10 u_10 H locs hq_10 hP hS => ?_)
  have hP := k_su hq_10.2 hP
  refine k_ti (y := bI ((xCh u.2 a0) b0)) (hq_10.1.trans (congrArg bI (tL_eL _ (by omega)))) ?_
  refine lv_if_ne (tgt := 32) hx hb dX2_areInLine_13 (by decide) (fun c_13 => ?_) (fun c_13 => ?_)
  · have c_13 : ((xCh u.2 a0) b0) = true := (bI_ne0 _).mp c_13
    refine lv_iconst (v := nI 1) hx hb dX2_areInLine_32 (by decide) ?_
    refine lv_goto (tgt := 37) hx hb dX2_areInLine_33 (by decide) ?_
    exact k_retz X hr hlocks hP hS dX2_areInLine_37 rfl ⟨by first | (rw [c_13]; rfl) | (rw [c_29, Bool.or_true]; rfl), rfl⟩
  · have c_13 : ((xCh u.2 a0) b0) = false := (bI_eq0 _).mp c_13
    refine lv_aload_n hx hb dX2_areInLine_16 rfl (lv_at hl 0 rfl) ?_
    refine k_get (v := .ref (gL G 3)) X hK inX2 rfl hP (wC_g G u (k := 0) (by decide)) 0 (by decide) tw_1_139 rfl dX2_areInLine_17 ?_
    refine k_gn (v := .ref (gL G 9)) X hK inX0 rfl hP (wC_g G u (k := 3) (by decide)) 5 (by decide) ntw_1_44 rfl dX2_areInLine_20 ?_
    refine lv_iload_n hx hb dX2_areInLine_23 rfl (lv_at hl 2 rfl) ?_
    refine k_lld (v := eL (xCh u.2 b0)) X hK hP (wC_g G u (k := 9) (by decide)) (by omega) (by decide) rfl dX2_areInLine_24 ?_
    refine lv_iload_n hx hb dX2_areInLine_25 rfl (lv_at hl 1 rfl) ?_
    refine k_ci (k_runS (As := [.long (eL (xCh u.2 b0)), .int (nI a0)]) (rest := []) X hK hP (m2_holds l G (AC G) (wC G) u (eL (xCh u.2 b0)) (k := a0) (by omega)) ⟨rfl, rfl⟩ tw_1_235 tw_1_211 tw_1_1 tw_1_212 ⟨by decide +kernel, by decide +kernel, (by decide +kernel : (parseMethodDescriptor yX2_holds.desc).map (fun d => d.parameters.length) = some 2)⟩ ⟨Nat.le_of_ble_eq_true rfl, Nat.le_of_ble_eq_true rfl⟩ hl.1 rfl (Nat.le_of_ble_eq_true rfl) ⟨Nat.zero_le _, Nat.zero_le _⟩ dX2_areInLine_26) hS (fun r_26 u_26 H locs hq_26 hP hS => ?_)
    have hP := k_su hq_26.2 hP
    refine k_ti (y := bI ((xCh u.2 b0) a0)) (hq_26.1.trans (congrArg bI (tL_eL _ (by omega)))) ?_
    refine lv_if_eq (tgt := 36) hx hb dX2_areInLine_29 (by decide) (fun c_29 => ?_) (fun c_29 => ?_)
    · have c_29 : ((xCh u.2 b0) a0) = false := (bI_eq0 _).mp c_29
      refine lv_iconst (v := nI 0) hx hb dX2_areInLine_36 (by decide) ?_
      exact k_retz X hr hlocks hP hS dX2_areInLine_37 rfl ⟨by rw [c_13, c_29]; rfl, rfl⟩
    · have c_29 : ((xCh u.2 b0) a0) = true := (bI_ne0 _).mp c_29
      refine lv_iconst (v := nI 1) hx hb dX2_areInLine_32 (by decide) ?_
      refine lv_goto (tgt := 37) hx hb dX2_areInLine_33 (by decide) ?_
      exact k_retz X hr hlocks hP hS dX2_areInLine_37 rfl ⟨by first | (rw [c_13]; rfl) | (rw [c_29, Bool.or_true]; rfl), rfl⟩

set_option maxHeartbeats 4000000 in
set_option maxRecDepth 100000 in
theorem m2_wishAt (l : Launch) (G : kG) (A : Nat → Prop) {S : Type} (wd : S → va_W) (u : S) (x : Int32) {k : Nat} (hk32 : k < 2 ^ 31) : KMi l G A wd yX2_wishAt cX2_wishAt 4 (Option.some FieldType.int) ({ frames := 1, cells := 0, slots := 0, locals := 22 }) [.int (x), .int (nI k)] u (fun r u' => ((∃ i, i < 32 ∧ r = nI i ∧ tI x i = true ∧ cnt (tI x) i = k) ∨ (r = -1 ∧ cnt (tI x) 32 ≤ k)) ∧ u' = u) := by
  refine K_of (by decide) (Nat.le_of_ble_eq_true rfl) ?_
  intro p e s m below meth c X hr hlocks hnm hK hP ls hl
  have hx := X.1
  have hb := X.2.1
  have hown := X.2.2.2.1
  have hts := X.2.2.2.2
  have hS : va_S A s.heap s.heap [] := va_S.rf
  have hl : lv_has ls 4 [(0, .int (x)), (1, .int (nI k))] := hl
  refine lv_iload_n hx hb dX2_wishAt_0 rfl (lv_at hl 1 rfl) ?_
  refine lv_istore_n (lv' := [(2, .int (nI k)), (0, .int (x)), (1, .int (nI k))]) hx hb dX2_wishAt_1 rfl hl (by decide) rfl (fun ls hl => ?_)
  refine lv_iconst (v := nI 0) hx hb dX2_wishAt_2 (by decide) ?_
  refine lv_istore_n (lv' := [(3, .int (nI 0)), (2, .int (nI k)), (0, .int (x)), (1, .int (nI k))]) hx hb dX2_wishAt_3 rfl hl (by decide) rfl (fun ls hl => ?_)
  have loop_4 : ∀ (d_4 : Nat) (i : Nat) (lf : Nat), 32 - i = d_4 → (i ≤ 32) → (cnt (tI x) i + lf = k) → ∀ (H : Heap) (locs : List Loc) (ls : Array Slot), va_P (gD G) vwCl (wd u) H → va_S A s.heap H locs → lv_has ls 4 [(0, .int (x)), (1, .int (nI k)), (2, .int (nI lf)), (3, .int (nI i))] → W p l e ({ frames := 1, cells := 0, slots := 0, locals := 22 } : Room) s m ([.int (x), .int (nI k)] : List Value).toArray below meth c H locs 0 0 (MQ below (va_Qi (fun r u' => ((∃ i, i < 32 ∧ r = nI i ∧ tI x i = true ∧ cnt (tI x) i = k) ∨ (r = -1 ∧ cnt (tI x) 32 ≤ k)) ∧ u' = u) (KB G wd) A) ([.int (x), .int (nI k)] : List Value).toArray s 0 0 A) (F0 m 4 ls []) := by
    intro d_4
    induction d_4 using Nat.strongRecOn with
    | ind d_4 ih_4 =>
      intro i lf hd_4 hi hlf H locs ls hP hS hl
      refine lv_iload_n hx hb dX2_wishAt_4 rfl (lv_at hl 3 rfl) ?_
      refine lv_bipush (v := nI 32) hx hb dX2_wishAt_5 (by decide) ?_
      refine lv_icmp_ge (tgt := 34) hx hb dX2_wishAt_7 (by decide) (fun c_7 => ?_) (fun c_7 => ?_)
      · have c_7 : 32 ≤ i := cLe c_7 (by omega) (by omega)
        refine lv_iconst (v := -1) hx hb dX2_wishAt_34 (by decide) ?_
        exact k_reti X hr hlocks hP hS dX2_wishAt_35 ⟨Or.inr ⟨rfl, by rw [show (32 : Nat) = i by omega]; omega⟩, rfl⟩
      · have c_7 : i < 32 := cNle c_7 (by omega) (by omega)
        refine lv_iload_n hx hb dX2_wishAt_10 rfl (lv_at hl 0 rfl) ?_
        refine lv_i2l (v := x.toInt64) hx hb dX2_wishAt_11 rfl ?_
        refine lv_iload_n hx hb dX2_wishAt_12 rfl (lv_at hl 3 rfl) ?_
        refine k_ci (k_runS (As := [.long (x.toInt64), .int (nI i)]) (rest := []) X hK hP (m2_holds l G A wd u x.toInt64 (k := i) (by omega)) ⟨rfl, rfl⟩ tw_1_235 tw_1_211 tw_1_1 tw_1_212 ⟨by decide +kernel, by decide +kernel, (by decide +kernel : (parseMethodDescriptor yX2_holds.desc).map (fun d => d.parameters.length) = some 2)⟩ ⟨Nat.le_of_ble_eq_true rfl, Nat.le_of_ble_eq_true rfl⟩ hl.1 rfl (Nat.le_of_ble_eq_true rfl) ⟨Nat.zero_le _, Nat.zero_le _⟩ dX2_wishAt_13) hS (fun r_13 u_13 H locs hq_13 hP hS => ?_)
        have hP := k_su hq_13.2 hP
        refine k_ti (y := bI (tI x i)) (hq_13.1.trans (congrArg bI (tL_wide _ (by omega)))) ?_
        refine lv_if_eq (tgt := 28) hx hb dX2_wishAt_16 (by decide) (fun c_16 => ?_) (fun c_16 => ?_)
        · have c_16 : (tI x i) = false := (bI_eq0 _).mp c_16
          refine lv_iinc (v := nI (i + 1)) (lv' := [(3, .int (nI (i + 1))), (0, .int (x)), (1, .int (nI k)), (2, .int (nI lf))]) hx hb dX2_wishAt_28 hl (k := 3) rfl (nI_add i 1) (by decide) rfl (fun ls hl => ?_)
          refine lv_goto (tgt := 4) hx hb dX2_wishAt_31 (by decide) ?_
          exact ih_4 (32 - (i + 1)) (by omega) (i + 1) lf rfl (by omega) (by rw [cnt, c_16]; simp only [Bool.false_eq_true, if_false]; omega) _ _ _ hP hS (lv_sub hl [1, 2, 3, 0] rfl)
        · have c_16 : (tI x i) = true := (bI_ne0 _).mp c_16
          refine lv_iload_n hx hb dX2_wishAt_19 rfl (lv_at hl 2 rfl) ?_
          refine lv_if_ne (tgt := 25) hx hb dX2_wishAt_20 (by decide) (fun c_20 => ?_) (fun c_20 => ?_)
          · have c_20 : lf ≠ 0 := czNe c_20 (by omega) (by omega)
            obtain ⟨mm, rfl⟩ : ∃ mm, lf = mm + 1 := ⟨lf - 1, by omega⟩
            refine lv_iinc (v := nI mm) (lv' := [(2, .int (nI mm)), (0, .int (x)), (1, .int (nI k)), (3, .int (nI i))]) hx hb dX2_wishAt_25 hl (k := 2) rfl (pk_m1 mm) (by decide) rfl (fun ls hl => ?_)
            refine lv_iinc (v := nI (i + 1)) (lv' := [(3, .int (nI (i + 1))), (2, .int (nI mm)), (0, .int (x)), (1, .int (nI k))]) hx hb dX2_wishAt_28 hl (k := 3) rfl (nI_add i 1) (by decide) rfl (fun ls hl => ?_)
            refine lv_goto (tgt := 4) hx hb dX2_wishAt_31 (by decide) ?_
            exact ih_4 (32 - (i + 1)) (by omega) (i + 1) mm rfl (by omega) (by rw [cnt, c_16]; simp only [if_true]; omega) _ _ _ hP hS (lv_sub hl [2, 3, 1, 0] rfl)
          · have c_20 : lf = 0 := czEq c_20 (by omega) (by omega)
            refine lv_iload_n hx hb dX2_wishAt_23 rfl (lv_at hl 3 rfl) ?_
            exact k_reti X hr hlocks hP hS dX2_wishAt_24 ⟨Or.inl ⟨i, by omega, rfl, c_16, by omega⟩, rfl⟩
  exact loop_4 _ 0 k rfl (Nat.zero_le _) (Nat.zero_add _) _ _ _ hP hS (lv_sub hl [2, 3, 1, 0] rfl)
