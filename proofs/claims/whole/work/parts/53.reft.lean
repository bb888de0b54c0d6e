set_option maxHeartbeats 4000000 in
set_option maxRecDepth 100000 in
theorem m3_agree (l : Launch) (G : kG) (u : CS) (Y : YS) (hL : layR G) (hI : Inv G u) (hY : InvY (gn G) u.1 Y) : KMi l G (AR G) (wR G) yX3_agree cX3_agree 3 (Option.some FieldType.int) ({ frames := 3, cells := 0, slots := 0, locals := 70 }) [.ref (gL G 0)] (u.1, Y) (fun zz rr => RP (gn G) (pAgree (gn G) u) zz rr) := by
  refine K_of (by decide) (Nat.le_of_ble_eq_true rfl) ?_
  intro p e s m below meth c X hr hlocks hnm hK hP ls hl
  have hx := X.1
  have hb := X.2.1
  have hown := X.2.2.2.1
  have hts := X.2.2.2.2
  have hS : va_S (AR G) s.heap s.heap [] := va_S.rf
  have hl : lv_has ls 3 [(0, .ref (gL G 0))] := hl
  have hk : okR G (u.1, Y) := okR_of hI.1.1 Y
  obtain ⟨⟨kn4, kn10⟩, ⟨kT1, kT61⟩, kP40, kLd, kPar, kEp, kHt, kVf⟩ := id hk
  dsimp only at kT1 kT61 kP40 kLd kPar kEp kHt kVf
  refine lv_aload_n hx hb dX3_agree_0 rfl (lv_at hl 0 rfl) ?_
  refine lv_iconst (v := nI 0) hx hb dX3_agree_1 (by decide) ?_
  refine k_put (v := .int (nI 0)) X hK inX3 rfl tyX3_ok nmX3 hP (wR_D hL _) hS (wR_g G ((u.1, Y)) (k := 0) (by decide)) 0 (by decide) tw_2_135 rfl rfl rfl (Nat.le_of_ble_eq_true rfl) ((u.1, Y)) (rs_th G ((u.1, Y))) dX3_agree_2 (fun H locs hP hS => ?_)
  refine lv_iconst (v := nI 0) hx hb dX3_agree_5 (by decide) ?_
  refine lv_istore_n (lv' := [(1, .int (nI 0)), (0, .ref (gL G 0))]) hx hb dX3_agree_6 rfl hl (by decide) rfl (fun ls hl => ?_)
  refine lv_iconst (v := nI 0) hx hb dX3_agree_7 (by decide) ?_
  refine lv_istore_n (lv' := [(2, .int (nI 0)), (1, .int (nI 0)), (0, .ref (gL G 0))]) hx hb dX3_agree_8 rfl hl (by decide) rfl (fun ls hl => ?_)
  have loop_9 : ∀ (d_9 : Nat) (i : Nat) (tp : Nat) (Y1 : YS), gn G - i = d_9 → (i ≤ gn G) → (tp < mT u.1) → (InvY (gn G) u.1 Y1) → (∀ a, a < i → mFa u.1 a = false → xCh u.2 tp (xHf u.2 a) = true) → (tp = 0 ∨ ∃ a, a < i ∧ mFa u.1 a = false ∧ xHf u.2 a = tp) → ∀ (H : Heap) (locs : List Loc) (ls : Array Slot), va_P (gD G) vwCl ((wR G) ((u.1, Y1))) H → va_S (AR G) s.heap H locs → lv_has ls 3 [(0, .ref (gL G 0)), (1, .int (nI tp)), (2, .int (nI i))] → W p l e ({ frames := 3, cells := 0, slots := 0, locals := 70 } : Room) s m ([.ref (gL G 0)] : List Value).toArray below meth c H locs 0 0 (MQ below (va_Qi (fun zz rr => RP (gn G) (pAgree (gn G) u) zz rr) (KB G (wR G)) (AR G)) ([.ref (gL G 0)] : List Value).toArray s 0 0 (AR G)) (F0 m 9 ls []) := by
    intro d_9
    induction d_9 using Nat.strongRecOn with
    | ind d_9 ih_9 =>
      intro i tp Y1 hd_9 hi htT hYi hall htop H locs ls hP hS hl
      refine lv_iload_n hx hb dX3_agree_9 rfl (lv_at hl 2 rfl) ?_
      refine lv_aload_n hx hb dX3_agree_10 rfl (lv_at hl 0 rfl) ?_
      refine k_get (v := .int (nI (gn G))) X hK inX3 rfl hP (wR_g G ((u.1, Y1)) (k := 0) (by decide)) 1 (by decide) tw_2_136 rfl dX3_agree_11 ?_
      refine lv_icmp_ge (tgt := 71) hx hb dX3_agree_14 (by decide) (fun c_14 => ?_) (fun c_14 => ?_)
      · have c_14 : (gn G) ≤ i := cLe c_14 (by omega) (by omega)
        refine lv_iconst (v := nI 1) hx hb dX3_agree_71 (by decide) ?_
        exact k_reti X hr hlocks hP hS dX3_agree_72 (rp (w := u) (by
          rw [pAgree, show agr (gn G) u = true from ?_]
          · rfl
          · refine List.all_eq_true.mpr fun a ha => List.all_eq_true.mpr fun b hb => ?_
            have ha := List.mem_range.mp ha
            have hb := List.mem_range.mp hb
            cases qa : mFa u.1 a
            · cases qb : mFa u.1 b
              · rw [lineB]
                rcases ch_tot hI.1.2.2.2.2.2.2.2.2.1 kPar _ htT (hall a (by omega) qa) (hall b (by omega) qb) with h | h
                · rw [h]; rfl
                · rw [h]; simp
              · rfl
            · rfl) hYi)
      · have c_14 : i < (gn G) := cNle c_14 (by omega) (by omega)
        refine lv_aload_n hx hb dX3_agree_17 rfl (lv_at hl 0 rfl) ?_
        refine k_get (v := .ref (gL G 1)) X hK inX3 rfl hP (wR_g G ((u.1, Y1)) (k := 0) (by decide)) 2 (by decide) tw_2_137 rfl dX3_agree_18 ?_
        refine lv_iload_n hx hb dX3_agree_21 rfl (lv_at hl 2 rfl) ?_
        refine k_zld (k := i) (v := bI (mFa u.1 i)) X hK hP (wR_g G ((u.1, Y1)) (k := 1) (by decide)) (by omega) (by decide) rfl dX3_agree_22 ?_
        refine lv_if_ne (tgt := 65) hx hb dX3_agree_23 (by decide) (fun c_23 => ?_) (fun c_23 => ?_)
        · have c_23 : (mFa u.1 i) = true := (bI_ne0 _).mp c_23
          refine lv_iinc (v := nI (i + 1)) (lv' := [(2, .int (nI (i + 1))), (0, .ref (gL G 0)), (1, .int (nI tp))]) hx hb dX3_agree_65 hl (k := 2) rfl (nI_add i 1) (by decide) rfl (fun ls hl => ?_)
          refine lv_goto (tgt := 9) hx hb dX3_agree_68 (by decide) ?_
          exact ih_9 (gn G - (i + 1)) (by omega) (i + 1) tp Y1 rfl (by omega) (htT) (hYi) (fun a h1 h2 => by
            rcases Nat.lt_or_ge a i with q | q
            · exact hall a q h2
            · rw [show a = i by omega, c_23] at h2; cases h2) (htop.imp id fun ⟨a, h1, h2⟩ => ⟨a, by omega, h2⟩) _ _ _ hP hS (lv_sub hl [1, 2, 0] rfl)
        · have c_23 : (mFa u.1 i) = false := (bI_eq0 _).mp c_23
          refine lv_aload_n hx hb dX3_agree_26 rfl (lv_at hl 0 rfl) ?_
          refine lv_iload_n hx hb dX3_agree_27 rfl (lv_at hl 2 rfl) ?_
          refine k_cv (k_runV (As := [.int (nI i)]) (rest := []) X hK hP (wR_g G ((u.1, Y1)) (k := 0) (by decide)) rfl (m3_workOut l G ((u.1, Y1)) hL (hk) (v := i) (by omega) (xCh u.2) (hI.1).2.2.2.2.2.2.2.2.1 (inv_rn hI.1 _)) ⟨rfl, rfl⟩ tw_3_6 tw_3_8 tw_0_28 tw_1_6 tw_3_9 ⟨by decide +kernel, by decide +kernel, (by decide +kernel : (parseMethodDescriptor yX3_workOut.desc).map (fun d => d.parameters.length) = some 1)⟩ ⟨Nat.le_of_ble_eq_true rfl, Nat.le_of_ble_eq_true rfl⟩ hl.1 rfl (Nat.le_of_ble_eq_true rfl) ⟨Nat.zero_le _, Nat.zero_le _⟩ dX3_agree_28) hS (fun u_28 H locs hq_28 hP hS => ?_)
          obtain ⟨M_28, Y_28⟩ := u_28
          obtain ⟨hM_28, h4_28, hD_28, hR_28⟩ := hq_28
          dsimp only at hM_28 h4_28 hD_28 hR_28
          subst hM_28
          obtain ⟨eK, eN, eF, eT, eH⟩ := DV_uniq kPar hD_28 (hI.1.2.2.2.2.2.2.2.2.2.2 i (by omega)).1
          have hY2 : InvY (gn G) u.1 Y_28 := InvY_Y hYi h4_28.1 h4_28.2.1
          have hHi : xHf u.2 i < mT u.1 := hI.1.1.2.2.2.2.2.2.2.2.2.2.2.2 i
          refine lv_aload_n hx hb dX3_agree_31 rfl (lv_at hl 0 rfl) ?_
          refine lv_iload_n hx hb dX3_agree_32 rfl (lv_at hl 1 rfl) ?_
          refine lv_aload_n hx hb dX3_agree_33 rfl (lv_at hl 0 rfl) ?_
          refine k_get (v := .int (nI (yHi Y_28))) X hK inX3 rfl hP (wR_g G ((u.1, Y_28)) (k := 0) (by decide)) 24 (by decide) tw_2_159 rfl dX3_agree_34 ?_
          refine k_ti (congrArg nI eH) ?_
          refine k_ci (k_runV (As := [.int (nI tp), .int (nI (xHf u.2 i))]) (rest := []) X hK hP (wR_g G ((u.1, Y_28)) (k := 0) (by decide)) rfl (m3_isInChain l G ((u.1, Y_28)) hL (hk) (b := tp) (of0 := (xHf u.2 i)) (show tp < mT u.1 by omega) (show xHf u.2 i < mT u.1 by omega) (xCh u.2) hI.1.2.2.2.2.2.2.2.2.1) ⟨rfl, rfl⟩ tw_3_107 tw_3_109 tw_0_38 tw_1_6 tw_3_110 ⟨by decide +kernel, by decide +kernel, (by decide +kernel : (parseMethodDescriptor yX3_isInChain.desc).map (fun d => d.parameters.length) = some 2)⟩ ⟨Nat.le_of_ble_eq_true rfl, Nat.le_of_ble_eq_true rfl⟩ hl.1 rfl (Nat.le_of_ble_eq_true rfl) ⟨Nat.zero_le _, Nat.zero_le _⟩ dX3_agree_37) hS (fun r_37 u_37 H locs hq_37 hP hS => ?_)
          have hP := k_su hq_37.2 hP
          refine k_ti hq_37.1 ?_
          refine lv_if_eq (tgt := 51) hx hb dX3_agree_40 (by decide) (fun c_40 => ?_) (fun c_40 => ?_)
          · have c_40 : (xCh u.2 (xHf u.2 i) tp) = false := (bI_eq0 _).mp c_40
            refine lv_aload_n hx hb dX3_agree_51 rfl (lv_at hl 0 rfl) ?_
            refine lv_aload_n hx hb dX3_agree_52 rfl (lv_at hl 0 rfl) ?_
            refine k_get (v := .int (nI (yHi Y_28))) X hK inX3 rfl hP (wR_g G ((u.1, Y_28)) (k := 0) (by decide)) 24 (by decide) tw_2_159 rfl dX3_agree_53 ?_
            refine k_ti (congrArg nI eH) ?_
            refine lv_iload_n hx hb dX3_agree_56 rfl (lv_at hl 1 rfl) ?_
            refine k_ci (k_runV (As := [.int (nI (xHf u.2 i)), .int (nI tp)]) (rest := []) X hK hP (wR_g G ((u.1, Y_28)) (k := 0) (by decide)) rfl (m3_isInChain l G ((u.1, Y_28)) hL (hk) (b := (xHf u.2 i)) (of0 := tp) (show xHf u.2 i < mT u.1 by omega) (show tp < mT u.1 by omega) (xCh u.2) hI.1.2.2.2.2.2.2.2.2.1) ⟨rfl, rfl⟩ tw_3_107 tw_3_109 tw_0_38 tw_1_6 tw_3_110 ⟨by decide +kernel, by decide +kernel, (by decide +kernel : (parseMethodDescriptor yX3_isInChain.desc).map (fun d => d.parameters.length) = some 2)⟩ ⟨Nat.le_of_ble_eq_true rfl, Nat.le_of_ble_eq_true rfl⟩ hl.1 rfl (Nat.le_of_ble_eq_true rfl) ⟨Nat.zero_le _, Nat.zero_le _⟩ dX3_agree_57) hS (fun r_57 u_57 H locs hq_57 hP hS => ?_)
            have hP := k_su hq_57.2 hP
            refine k_ti hq_57.1 ?_
            refine lv_if_ne (tgt := 65) hx hb dX3_agree_60 (by decide) (fun c_60 => ?_) (fun c_60 => ?_)
            · have c_60 : (xCh u.2 tp (xHf u.2 i)) = true := (bI_ne0 _).mp c_60
              refine lv_iinc (v := nI (i + 1)) (lv' := [(2, .int (nI (i + 1))), (0, .ref (gL G 0)), (1, .int (nI tp))]) hx hb dX3_agree_65 hl (k := 2) rfl (nI_add i 1) (by decide) rfl (fun ls hl => ?_)
              refine lv_goto (tgt := 9) hx hb dX3_agree_68 (by decide) ?_
              exact ih_9 (gn G - (i + 1)) (by omega) (i + 1) tp Y_28 rfl (by omega) (htT) (hY2) (fun a h1 h2 => by
                rcases Nat.lt_or_ge a i with q | q
                · exact hall a q h2
                · rw [show a = i by omega]; exact c_60) (htop.imp id fun ⟨a, h1, h2⟩ => ⟨a, by omega, h2⟩) _ _ _ hP hS (lv_sub hl [1, 2, 0] rfl)
            · have c_60 : (xCh u.2 tp (xHf u.2 i)) = false := (bI_eq0 _).mp c_60
              refine lv_iconst (v := nI 0) hx hb dX3_agree_63 (by decide) ?_
              exact k_reti X hr hlocks hP hS dX3_agree_64 (rp (w := u) (by
                rw [pAgree, show agr (gn G) u = false from ?_]
                · rfl
                · rw [Bool.eq_false_iff]
                  intro h
                  rcases htop with q | ⟨a, q1, q2, q3⟩
                  · rw [q, ch_0 hI.1.2.2.2.2.2.2.2.2.1 kPar _ hHi] at c_40; cases c_40
                  · have h1 := List.all_eq_true.mp (List.all_eq_true.mp h a (List.mem_range.mpr (by omega))) i (List.mem_range.mpr (by omega))
                    rw [q2, c_23, lineB, q3, c_40, c_60] at h1
                    exact absurd h1 (by decide)) hY2)
          · have c_40 : (xCh u.2 (xHf u.2 i) tp) = true := (bI_ne0 _).mp c_40
            refine lv_aload_n hx hb dX3_agree_43 rfl (lv_at hl 0 rfl) ?_
            refine k_get (v := .int (nI (yHi Y_28))) X hK inX3 rfl hP (wR_g G ((u.1, Y_28)) (k := 0) (by decide)) 24 (by decide) tw_2_159 rfl dX3_agree_44 ?_
            refine k_ti (congrArg nI eH) ?_
            refine lv_istore_n (lv' := [(1, .int (nI (xHf u.2 i))), (0, .ref (gL G 0)), (2, .int (nI i))]) hx hb dX3_agree_47 rfl hl (by decide) rfl (fun ls hl => ?_)
            refine lv_goto (tgt := 65) hx hb dX3_agree_48 (by decide) ?_
            refine lv_iinc (v := nI (i + 1)) (lv' := [(2, .int (nI (i + 1))), (1, .int (nI (xHf u.2 i))), (0, .ref (gL G 0))]) hx hb dX3_agree_65 hl (k := 2) rfl (nI_add i 1) (by decide) rfl (fun ls hl => ?_)
            refine lv_goto (tgt := 9) hx hb dX3_agree_68 (by decide) ?_
            exact ih_9 (gn G - (i + 1)) (by omega) (i + 1) (xHf u.2 i) Y_28 rfl (by omega) (hHi) (hY2) (fun a h1 h2 => by
              rcases Nat.lt_or_ge a i with q | q
              · exact ch_tr hI.1.2.2.2.2.2.2.2.2.1 kPar (hall a q h2) _ hHi c_40
              · rw [show a = i by omega]; exact ch_self hI.1.2.2.2.2.2.2.2.2.1 hHi) (Or.inr ⟨i, Nat.lt_succ_self _, c_23, rfl⟩) _ _ _ hP hS (lv_sub hl [2, 1, 0] rfl)
  exact loop_9 _ 0 0 Y rfl (Nat.zero_le _) (kT1) (hY) (fun a h => absurd h (Nat.not_lt_zero _)) (Or.inl rfl) _ _ _ hP hS (lv_sub hl [2, 1, 0] rfl)

set_option maxHeartbeats 4000000 in
set_option maxRecDepth 100000 in
theorem m3_count (l : Launch) (G : kG) (u : CS) (Y : YS) (hL : layR G) (hI : Inv G u) (hY : InvY (gn G) u.1 Y) (x : Int32) : KMi l G (AR G) (wR G) yX3_count cX3_count 4 (Option.some FieldType.int) ({ frames := 0, cells := 0, slots := 0, locals := 0 }) [.ref (gL G 0), .int (x)] (u.1, Y) (fun zz rr => RP (gn G) (pCount (gn G) u x) zz rr) := by
  refine K_of (by decide) (Nat.le_of_ble_eq_true rfl) ?_
  intro p e s m below meth c X hr hlocks hnm hK hP ls hl
  have hx := X.1
  have hb := X.2.1
  have hown := X.2.2.2.1
  have hts := X.2.2.2.2
  have hS : va_S (AR G) s.heap s.heap [] := va_S.rf
  have hl : lv_has ls 4 [(0, .ref (gL G 0)), (1, .int (x))] := hl
  have hk : okR G (u.1, Y) := okR_of hI.1.1 Y
  obtain ⟨⟨kn4, kn10⟩, ⟨kT1, kT61⟩, kP40, kLd, kPar, kEp, kHt, kVf⟩ := id hk
  dsimp only at kT1 kT61 kP40 kLd kPar kEp kHt kVf
  refine lv_aload_n hx hb dX3_count_0 rfl (lv_at hl 0 rfl) ?_
  refine lv_iconst (v := nI 0) hx hb dX3_count_1 (by decide) ?_
  refine k_put (v := .int (nI 0)) X hK inX3 rfl tyX3_ok nmX3 hP (wR_D hL _) hS (wR_g G ((u.1, Y)) (k := 0) (by decide)) 0 (by decide) tw_2_135 rfl rfl rfl (Nat.le_of_ble_eq_true rfl) ((u.1, Y)) (rs_th G ((u.1, Y))) dX3_count_2 (fun H locs hP hS => ?_)
  refine lv_iconst (v := nI 0) hx hb dX3_count_5 (by decide) ?_
  refine lv_istore_n (lv' := [(2, .int (nI 0)), (0, .ref (gL G 0)), (1, .int (x))]) hx hb dX3_count_6 rfl hl (by decide) rfl (fun ls hl => ?_)
  refine lv_iload_n hx hb dX3_count_7 rfl (lv_at hl 2 rfl) ?_
  rcases sw7 x with hsw | hsw | hsw | hsw | hsw | hsw | hsw | hsw
  · subst hsw
    refine lv_tableIn (off := 44) (tgt := 52) hx hb dX3_count_8 (by decide) (by decide) (by decide +kernel) (by decide) ?_
    refine lv_aload_n hx hb dX3_count_52 rfl (lv_at hl 1 rfl) ?_
    refine k_get (v := .int (nI (gn G))) X hK inX3 rfl hP (wR_g G ((u.1, Y)) (k := 0) (by decide)) 1 (by decide) tw_2_136 rfl dX3_count_53 ?_
    exact k_reti X hr hlocks hP hS dX3_count_56 (rp (w := u) (by simp only [pCount, show ix 7 (nI 0) = some 0 from by decide +kernel] <;> (first | done | rfl | (split <;> first | rfl | (split <;> first | rfl | (split <;> rfl))))) (hY))
  · subst hsw
    refine lv_tableIn (off := 49) (tgt := 57) hx hb dX3_count_8 (by decide) (by decide) (by decide +kernel) (by decide) ?_
    refine lv_aload_n hx hb dX3_count_57 rfl (lv_at hl 1 rfl) ?_
    refine k_get (v := .int (nI (mP u.1))) X hK inX3 rfl hP (wR_g G ((u.1, Y)) (k := 0) (by decide)) 5 (by decide) tw_2_140 rfl dX3_count_58 ?_
    exact k_reti X hr hlocks hP hS dX3_count_61 (rp (w := u) (by simp only [pCount, show ix 7 (nI 1) = some 1 from by decide +kernel] <;> (first | done | rfl | (split <;> first | rfl | (split <;> first | rfl | (split <;> rfl))))) (hY))
  · subst hsw
    refine lv_tableIn (off := 54) (tgt := 62) hx hb dX3_count_8 (by decide) (by decide) (by decide +kernel) (by decide) ?_
    refine lv_aload_n hx hb dX3_count_62 rfl (lv_at hl 1 rfl) ?_
    refine k_get (v := .int (nI (mT u.1))) X hK inX3 rfl hP (wR_g G ((u.1, Y)) (k := 0) (by decide)) 6 (by decide) tw_2_141 rfl dX3_count_63 ?_
    exact k_reti X hr hlocks hP hS dX3_count_66 (rp (w := u) (by simp only [pCount, show ix 7 (nI 2) = some 2 from by decide +kernel] <;> (first | done | rfl | (split <;> first | rfl | (split <;> first | rfl | (split <;> rfl))))) (hY))
  · subst hsw
    refine lv_tableIn (off := 59) (tgt := 67) hx hb dX3_count_8 (by decide) (by decide) (by decide +kernel) (by decide) ?_
    refine lv_iconst (v := nI 0) hx hb dX3_count_67 (by decide) ?_
    refine lv_istore_n (lv' := [(3, .int (nI 0)), (2, .int (nI 0)), (0, .ref (gL G 0)), (1, .int (nI 3))]) hx hb dX3_count_68 rfl hl (by decide) rfl (fun ls hl => ?_)
    have loop_69 : ∀ (d_69 : Nat) (i : Nat), gn G - i = d_69 → (i ≤ gn G) → ∀ (H : Heap) (locs : List Loc) (ls : Array Slot), va_P (gD G) vwCl ((wR G) ((u.1, Y))) H → va_S (AR G) s.heap H locs → lv_has ls 4 [(0, .ref (gL G 0)), (1, .int (nI 3)), (2, .int (nI (cnt (mFa u.1) i))), (3, .int (nI i))] → W p l e ({ frames := 0, cells := 0, slots := 0, locals := 0 } : Room) s m ([.ref (gL G 0), .int ((nI 3))] : List Value).toArray below meth c H locs 0 0 (MQ below (va_Qi (fun zz rr => RP (gn G) (pCount (gn G) u (nI 3)) zz rr) (KB G (wR G)) (AR G)) ([.ref (gL G 0), .int ((nI 3))] : List Value).toArray s 0 0 (AR G)) (F0 m 69 ls []) := by
      intro d_69
      induction d_69 using Nat.strongRecOn with
      | ind d_69 ih_69 =>
        intro i hd_69 hi H locs ls hP hS hl
        refine lv_iload_n hx hb dX3_count_69 rfl (lv_at hl 3 rfl) ?_
        refine lv_aload_n hx hb dX3_count_70 rfl (lv_at hl 0 rfl) ?_
        refine k_get (v := .int (nI (gn G))) X hK inX3 rfl hP (wR_g G ((u.1, Y)) (k := 0) (by decide)) 1 (by decide) tw_2_136 rfl dX3_count_71 ?_
        refine lv_icmp_ge (tgt := 100) hx hb dX3_count_74 (by decide) (fun c_74 => ?_) (fun c_74 => ?_)
        · have c_74 : (gn G) ≤ i := cLe c_74 (by omega) (by omega)
          refine lv_iload_n hx hb dX3_count_100 rfl (lv_at hl 2 rfl) ?_
          exact k_reti X hr hlocks hP hS dX3_count_101 (rp (w := u) (by simp only [pCount, show ix 7 (nI 3) = some 3 from by decide +kernel]; rw [show i = gn G by omega]) hY)
        · have c_74 : i < (gn G) := cNle c_74 (by omega) (by omega)
          refine lv_iload_n hx hb dX3_count_77 rfl (lv_at hl 2 rfl) ?_
          refine lv_aload_n hx hb dX3_count_78 rfl (lv_at hl 0 rfl) ?_
          refine k_get (v := .ref (gL G 1)) X hK inX3 rfl hP (wR_g G ((u.1, Y)) (k := 0) (by decide)) 2 (by decide) tw_2_137 rfl dX3_count_79 ?_
          refine lv_iload_n hx hb dX3_count_82 rfl (lv_at hl 3 rfl) ?_
          refine k_zld (k := i) (v := bI (mFa u.1 i)) X hK hP (wR_g G ((u.1, Y)) (k := 1) (by decide)) (by omega) (by decide) rfl dX3_count_83 ?_
          refine lv_if_eq (tgt := 91) hx hb dX3_count_84 (by decide) (fun c_84 => ?_) (fun c_84 => ?_)
          · have c_84 : (mFa u.1 i) = false := (bI_eq0 _).mp c_84
            refine lv_iconst (v := nI 0) hx hb dX3_count_91 (by decide) ?_
            refine lv_iadd hx hb dX3_count_92 ?_
            refine k_ti (nI_add (cnt (mFa u.1) i) 0) ?_
            refine k_ti (show _ = nI (cnt (mFa u.1) (i + 1)) by rw [cnt, c_84]; rfl) ?_
            refine lv_istore_n (lv' := [(2, .int (nI (cnt (mFa u.1) (i + 1)))), (0, .ref (gL G 0)), (1, .int (nI 3)), (3, .int (nI i))]) hx hb dX3_count_93 rfl hl (by decide) rfl (fun ls hl => ?_)
            refine lv_iinc (v := nI (i + 1)) (lv' := [(3, .int (nI (i + 1))), (2, .int (nI (cnt (mFa u.1) (i + 1)))), (0, .ref (gL G 0)), (1, .int (nI 3))]) hx hb dX3_count_94 hl (k := 3) rfl (nI_add i 1) (by decide) rfl (fun ls hl => ?_)
            refine lv_goto (tgt := 69) hx hb dX3_count_97 (by decide) ?_
            exact ih_69 (gn G - (i + 1)) (by omega) (i + 1) rfl (by omega) _ _ _ hP hS (lv_sub hl [2, 3, 1, 0] rfl)
          · have c_84 : (mFa u.1 i) = true := (bI_ne0 _).mp c_84
            refine lv_iconst (v := nI 1) hx hb dX3_count_87 (by decide) ?_
            refine lv_goto (tgt := 92) hx hb dX3_count_88 (by decide) ?_
            refine lv_iadd hx hb dX3_count_92 ?_
            refine k_ti (nI_add (cnt (mFa u.1) i) 1) ?_
            refine k_ti (show _ = nI (cnt (mFa u.1) (i + 1)) by rw [cnt, c_84]; rfl) ?_
            refine lv_istore_n (lv' := [(2, .int (nI (cnt (mFa u.1) (i + 1)))), (0, .ref (gL G 0)), (1, .int (nI 3)), (3, .int (nI i))]) hx hb dX3_count_93 rfl hl (by decide) rfl (fun ls hl => ?_)
            refine lv_iinc (v := nI (i + 1)) (lv' := [(3, .int (nI (i + 1))), (2, .int (nI (cnt (mFa u.1) (i + 1)))), (0, .ref (gL G 0)), (1, .int (nI 3))]) hx hb dX3_count_94 hl (k := 3) rfl (nI_add i 1) (by decide) rfl (fun ls hl => ?_)
            refine lv_goto (tgt := 69) hx hb dX3_count_97 (by decide) ?_
            exact ih_69 (gn G - (i + 1)) (by omega) (i + 1) rfl (by omega) _ _ _ hP hS (lv_sub hl [2, 3, 1, 0] rfl)
    exact loop_69 _ 0 rfl (Nat.zero_le _) _ _ _ hP hS (lv_sub hl [2, 3, 1, 0] rfl)
  · subst hsw
    refine lv_tableIn (off := 94) (tgt := 102) hx hb dX3_count_8 (by decide) (by decide) (by decide +kernel) (by decide) ?_
    refine lv_iconst (v := nI 0) hx hb dX3_count_102 (by decide) ?_
    refine lv_istore_n (lv' := [(3, .int (nI 0)), (2, .int (nI 0)), (0, .ref (gL G 0)), (1, .int (nI 4))]) hx hb dX3_count_103 rfl hl (by decide) rfl (fun ls hl => ?_)
    have loop_104 : ∀ (d_104 : Nat) (i : Nat), 110 * mT u.1 - i = d_104 → (i ≤ 110 * mT u.1) → ∀ (H : Heap) (locs : List Loc) (ls : Array Slot), va_P (gD G) vwCl ((wR G) ((u.1, Y))) H → va_S (AR G) s.heap H locs → lv_has ls 4 [(0, .ref (gL G 0)), (1, .int (nI 4)), (2, .int (nI (cnt (fun k => mWy u.1 (k / 10) (k % 10)) i))), (3, .int (nI i))] → W p l e ({ frames := 0, cells := 0, slots := 0, locals := 0 } : Room) s m ([.ref (gL G 0), .int ((nI 4))] : List Value).toArray below meth c H locs 0 0 (MQ below (va_Qi (fun zz rr => RP (gn G) (pCount (gn G) u (nI 4)) zz rr) (KB G (wR G)) (AR G)) ([.ref (gL G 0), .int ((nI 4))] : List Value).toArray s 0 0 (AR G)) (F0 m 104 ls []) := by
      intro d_104
      induction d_104 using Nat.strongRecOn with
      | ind d_104 ih_104 =>
        intro i hd_104 hi H locs ls hP hS hl
        refine lv_iload_n hx hb dX3_count_104 rfl (lv_at hl 3 rfl) ?_
        refine lv_bipush (v := nI 110) hx hb dX3_count_105 (by decide) ?_
        refine lv_aload_n hx hb dX3_count_107 rfl (lv_at hl 0 rfl) ?_
        refine k_get (v := .int (nI (mT u.1))) X hK inX3 rfl hP (wR_g G ((u.1, Y)) (k := 0) (by decide)) 6 (by decide) tw_2_141 rfl dX3_count_108 ?_
        refine lv_imul hx hb dX3_count_111 ?_
        refine k_ti (pk_mul 110 (mT u.1)) ?_
        refine lv_icmp_ge (tgt := 138) hx hb dX3_count_112 (by decide) (fun c_112 => ?_) (fun c_112 => ?_)
        · have c_112 : (110 * (mT u.1)) ≤ i := cLe c_112 (by omega) (by omega)
          refine lv_iload_n hx hb dX3_count_138 rfl (lv_at hl 2 rfl) ?_
          exact k_reti X hr hlocks hP hS dX3_count_139 (rp (w := u) (by simp only [pCount, show ix 7 (nI 4) = some 4 from by decide +kernel]; rw [← uw_eq hI.1, show i = 110 * mT u.1 by omega]) hY)
        · have c_112 : i < (110 * (mT u.1)) := cNle c_112 (by omega) (by omega)
          refine lv_iload_n hx hb dX3_count_115 rfl (lv_at hl 2 rfl) ?_
          refine lv_aload_n hx hb dX3_count_116 rfl (lv_at hl 0 rfl) ?_
          refine k_get (v := .ref (gL G 10)) X hK inX3 rfl hP (wR_g G ((u.1, Y)) (k := 0) (by decide)) 13 (by decide) tw_2_148 rfl dX3_count_117 ?_
          refine lv_iload_n hx hb dX3_count_120 rfl (lv_at hl 3 rfl) ?_
          refine k_zld (k := i) (v := bI (mWy u.1 (i / 10) (i % 10))) X hK hP (wR_g G ((u.1, Y)) (k := 10) (by decide)) (by omega) (by decide) rfl dX3_count_121 ?_
          refine lv_if_eq (tgt := 129) hx hb dX3_count_122 (by decide) (fun c_122 => ?_) (fun c_122 => ?_)
          · have c_122 : (mWy u.1 (i / 10) (i % 10)) = false := (bI_eq0 _).mp c_122
            refine lv_iconst (v := nI 0) hx hb dX3_count_129 (by decide) ?_
            refine lv_iadd hx hb dX3_count_130 ?_
            refine k_ti (nI_add (cnt (fun k => mWy u.1 (k / 10) (k % 10)) i) 0) ?_
            refine k_ti (show _ = nI (cnt (fun k => mWy u.1 (k / 10) (k % 10)) (i + 1)) by rw [cnt, c_122]; rfl) ?_
            refine lv_istore_n (lv' := [(2, .int (nI (cnt (fun k => mWy u.1 (k / 10) (k % 10)) (i + 1)))), (0, .ref (gL G 0)), (1, .int (nI 4)), (3, .int (nI i))]) hx hb dX3_count_131 rfl hl (by decide) rfl (fun ls hl => ?_)
            refine lv_iinc (v := nI (i + 1)) (lv' := [(3, .int (nI (i + 1))), (2, .int (nI (cnt (fun k => mWy u.1 (k / 10) (k % 10)) (i + 1)))), (0, .ref (gL G 0)), (1, .int (nI 4))]) hx hb dX3_count_132 hl (k := 3) rfl (nI_add i 1) (by decide) rfl (fun ls hl => ?_)
            refine lv_goto (tgt := 104) hx hb dX3_count_135 (by decide) ?_
            exact ih_104 (110 * mT u.1 - (i + 1)) (by omega) (i + 1) rfl (by omega) _ _ _ hP hS (lv_sub hl [2, 3, 1, 0] rfl)
          · have c_122 : (mWy u.1 (i / 10) (i % 10)) = true := (bI_ne0 _).mp c_122
            refine lv_iconst (v := nI 1) hx hb dX3_count_125 (by decide) ?_
            refine lv_goto (tgt := 130) hx hb dX3_count_126 (by decide) ?_
            refine lv_iadd hx hb dX3_count_130 ?_
            refine k_ti (nI_add (cnt (fun k => mWy u.1 (k / 10) (k % 10)) i) 1) ?_
            refine k_ti (show _ = nI (cnt (fun k => mWy u.1 (k / 10) (k % 10)) (i + 1)) by rw [cnt, c_122]; rfl) ?_
            refine lv_istore_n (lv' := [(2, .int (nI (cnt (fun k => mWy u.1 (k / 10) (k % 10)) (i + 1)))), (0, .ref (gL G 0)), (1, .int (nI 4)), (3, .int (nI i))]) hx hb dX3_count_131 rfl hl (by decide) rfl (fun ls hl => ?_)
            refine lv_iinc (v := nI (i + 1)) (lv' := [(3, .int (nI (i + 1))), (2, .int (nI (cnt (fun k => mWy u.1 (k / 10) (k % 10)) (i + 1)))), (0, .ref (gL G 0)), (1, .int (nI 4))]) hx hb dX3_count_132 hl (k := 3) rfl (nI_add i 1) (by decide) rfl (fun ls hl => ?_)
            refine lv_goto (tgt := 104) hx hb dX3_count_135 (by decide) ?_
            exact ih_104 (110 * mT u.1 - (i + 1)) (by omega) (i + 1) rfl (by omega) _ _ _ hP hS (lv_sub hl [2, 3, 1, 0] rfl)
    exact loop_104 _ 0 rfl (Nat.zero_le _) _ _ _ hP hS (lv_sub hl [2, 3, 1, 0] rfl)
  · subst hsw
    refine lv_tableIn (off := 132) (tgt := 140) hx hb dX3_count_8 (by decide) (by decide) (by decide +kernel) (by decide) ?_
    refine lv_aload_n hx hb dX3_count_140 rfl (lv_at hl 1 rfl) ?_
    refine k_get (v := .int (nI (mG u.1))) X hK inX3 rfl hP (wR_g G ((u.1, Y)) (k := 0) (by decide)) 18 (by decide) tw_2_153 rfl dX3_count_141 ?_
    exact k_reti X hr hlocks hP hS dX3_count_144 (rp (w := u) (by simp only [pCount, show ix 7 (nI 5) = some 5 from by decide +kernel] <;> (first | done | rfl | (split <;> first | rfl | (split <;> first | rfl | (split <;> rfl))))) (hY))
  · subst hsw
    refine lv_tableIn (off := 137) (tgt := 145) hx hb dX3_count_8 (by decide) (by decide) (by decide +kernel) (by decide) ?_
    refine lv_aload_n hx hb dX3_count_145 rfl (lv_at hl 1 rfl) ?_
    refine k_get (v := .int (nI (mC u.1))) X hK inX3 rfl hP (wR_g G ((u.1, Y)) (k := 0) (by decide)) 16 (by decide) tw_2_151 rfl dX3_count_146 ?_
    exact k_reti X hr hlocks hP hS dX3_count_149 (rp (w := u) (by simp only [pCount, show ix 7 (nI 6) = some 6 from by decide +kernel] <;> (first | done | rfl | (split <;> first | rfl | (split <;> first | rfl | (split <;> rfl))))) (hY))
  · refine lv_tableOut (tgt := 150) hx hb dX3_count_8 (sw_out hsw (by decide)) (by decide) ?_
    refine lv_bipush (v := -2) hx hb dX3_count_150 (by decide) ?_
    exact k_reti X hr hlocks hP hS dX3_count_152 (rp (w := u) (by simp only [pCount, ix_none hsw (show 7 < 2 ^ 31 by decide)] <;> (first | done | rfl | (split <;> first | rfl | (split <;> first | rfl | (split <;> rfl))))) (hY))

set_option maxHeartbeats 4000000 in
set_option maxRecDepth 100000 in
theorem m3_ledger (l : Launch) (G : kG) (u : CS) (Y : YS) (hL : layR G) (hI : Inv G u) (hY : InvY (gn G) u.1 Y) (x y : Int32) : KMi l G (AR G) (wR G) yX3_ledger cX3_ledger 9 (Option.some FieldType.int) ({ frames := 3, cells := 0, slots := 0, locals := 70 }) [.ref (gL G 0), .int (x), .int (y)] (u.1, Y) (fun zz rr => RP (gn G) (pLedger (gn G) u x y) zz rr) := by
  refine K_of (by decide) (Nat.le_of_ble_eq_true rfl) ?_
  intro p e s m below meth c X hr hlocks hnm hK hP ls hl
  have hx := X.1
  have hb := X.2.1
  have hown := X.2.2.2.1
  have hts := X.2.2.2.2
  have hS : va_S (AR G) s.heap s.heap [] := va_S.rf
  have hl : lv_has ls 9 [(0, .ref (gL G 0)), (1, .int (x)), (2, .int (y))] := hl
  have hk : okR G (u.1, Y) := okR_of hI.1.1 Y
  obtain ⟨⟨kn4, kn10⟩, ⟨kT1, kT61⟩, kP40, kLd, kPar, kEp, kHt, kVf⟩ := id hk
  dsimp only at kT1 kT61 kP40 kLd kPar kEp kHt kVf
  refine lv_aload_n hx hb dX3_ledger_0 rfl (lv_at hl 0 rfl) ?_
  refine lv_iconst (v := nI 0) hx hb dX3_ledger_1 (by decide) ?_
  refine k_put (v := .int (nI 0)) X hK inX3 rfl tyX3_ok nmX3 hP (wR_D hL _) hS (wR_g G ((u.1, Y)) (k := 0) (by decide)) 0 (by decide) tw_2_135 rfl rfl rfl (Nat.le_of_ble_eq_true rfl) ((u.1, Y)) (rs_th G ((u.1, Y))) dX3_ledger_2 (fun H locs hP hS => ?_)
  refine lv_aload_n hx hb dX3_ledger_5 rfl (lv_at hl 0 rfl) ?_
  refine lv_iload_n hx hb dX3_ledger_6 rfl (lv_at hl 1 rfl) ?_
  refine k_ci (k_runV (As := [.int (x)]) (rest := []) X hK hP (wR_g G ((u.1, Y)) (k := 0) (by decide)) rfl (m3_isNode l G ((u.1, Y)) hL (hk) x) ⟨rfl, rfl⟩ tw_2_229 tw_2_231 tw_0_27 tw_1_6 tw_2_232 ⟨by decide +kernel, by decide +kernel, (by decide +kernel : (parseMethodDescriptor yX3_isNode.desc).map (fun d => d.parameters.length) = some 1)⟩ ⟨Nat.le_of_ble_eq_true rfl, Nat.le_of_ble_eq_true rfl⟩ hl.1 rfl (Nat.le_of_ble_eq_true rfl) ⟨Nat.zero_le _, Nat.zero_le _⟩ dX3_ledger_7) hS (fun r_7 u_7 H locs hq_7 hP hS => ?_)
  have hP := k_su hq_7.1 hP
  rcases hq_7.2 with ⟨j_7, hj_7, hx_7, hr_7⟩ | ⟨hz_7, hr_7⟩
  · subst hx_7
    subst hr_7
    replace hj_7 : j_7 < gn G := hj_7
    refine lv_if_ne (tgt := 16) hx hb dX3_ledger_10 (by decide) (fun c_10 => ?_) (fun c_10 => ?_)
    · refine lv_aload_n hx hb dX3_ledger_16 rfl (lv_at hl 0 rfl) ?_
      refine lv_iload_n hx hb dX3_ledger_17 rfl (lv_at hl 1 rfl) ?_
      refine k_cv (k_runV (As := [.int (nI j_7)]) (rest := []) X hK hP (wR_g G ((u.1, Y)) (k := 0) (by decide)) rfl (m3_workOut l G ((u.1, Y)) hL (hk) (v := j_7) (by omega) (xCh u.2) (hI.1).2.2.2.2.2.2.2.2.1 (inv_rn hI.1 _)) ⟨rfl, rfl⟩ tw_3_6 tw_3_8 tw_0_28 tw_1_6 tw_3_9 ⟨by decide +kernel, by decide +kernel, (by decide +kernel : (parseMethodDescriptor yX3_workOut.desc).map (fun d => d.parameters.length) = some 1)⟩ ⟨Nat.le_of_ble_eq_true rfl, Nat.le_of_ble_eq_true rfl⟩ hl.1 rfl (Nat.le_of_ble_eq_true rfl) ⟨Nat.zero_le _, Nat.zero_le _⟩ dX3_ledger_18) hS (fun u_18 H locs hq_18 hP hS => ?_)
      obtain ⟨M_18, Y_18⟩ := u_18
      obtain ⟨hM_18, h4_18, hD_18, hR_18⟩ := hq_18
      dsimp only at hM_18 h4_18 hD_18 hR_18
      subst hM_18
      obtain ⟨eK, eN, eF, eT, eH⟩ := DV_uniq kPar hD_18 (hI.1.2.2.2.2.2.2.2.2.2.2 j_7 (by omega)).1
      have hY2 : InvY (gn G) u.1 Y_18 := InvY_Y hY h4_18.1 h4_18.2.1
      have hHf : xHf u.2 j_7 < mT u.1 := hI.1.1.2.2.2.2.2.2.2.2.2.2.2.2 j_7
      refine lv_iconst (v := nI 0) hx hb dX3_ledger_21 (by decide) ?_
      refine lv_istore_n (lv' := [(3, .int (nI 0)), (0, .ref (gL G 0)), (1, .int (nI j_7)), (2, .int (y))]) hx hb dX3_ledger_22 rfl hl (by decide) rfl (fun ls hl => ?_)
      refine lv_aload_n hx hb dX3_ledger_23 rfl (lv_at hl 1 rfl) ?_
      refine k_get (v := .int (nI (yHi Y_18))) X hK inX3 rfl hP (wR_g G ((u.1, Y_18)) (k := 0) (by decide)) 24 (by decide) tw_2_159 rfl dX3_ledger_24 ?_
      refine k_ti (congrArg nI eH) ?_
      refine lv_istore (lv' := [(4, .int (nI (xHf u.2 j_7))), (3, .int (nI 0)), (0, .ref (gL G 0)), (1, .int (nI j_7)), (2, .int (y))]) hx hb dX3_ledger_27 hl (by decide) rfl (fun ls hl => ?_)
      have loop_29 : ∀ (d_29 : Nat) (k : Nat) (m1 : Nat) (cn : Nat → Nat), k = d_29 → (cnL u.1 (xHf u.2 j_7) cn m1 k) → ∀ (H : Heap) (locs : List Loc) (ls : Array Slot), va_P (gD G) vwCl ((wR G) ((u.1, wCn Y_18 cn))) H → va_S (AR G) s.heap H locs → lv_has ls 9 [(0, .ref (gL G 0)), (1, .int (nI j_7)), (2, .int (y)), (3, .int (nI m1)), (4, .int (nI k))] → W p l e ({ frames := 3, cells := 0, slots := 0, locals := 70 } : Room) s m ([.ref (gL G 0), .int ((nI j_7)), .int (y)] : List Value).toArray below meth c H locs 0 0 (MQ below (va_Qi (fun zz rr => RP (gn G) (pLedger (gn G) u (nI j_7) y) zz rr) (KB G (wR G)) (AR G)) ([.ref (gL G 0), .int ((nI j_7)), .int (y)] : List Value).toArray s 0 0 (AR G)) (F0 m 29 ls []) := by
        intro d_29
        induction d_29 using Nat.strongRecOn with
        | ind d_29 ih_29 =>
          intro k m1 cn hd_29 hcn H locs ls hP hS hl
          have hkm := hcn.2.2.2
          refine lv_iload hx hb dX3_ledger_29 (lv_at hl 4 rfl) ?_
          refine lv_iconst (v := -1) hx hb dX3_ledger_31 (by decide) ?_
          refine lv_icmp_eq (tgt := 58) hx hb dX3_ledger_32 (by decide) (fun c_32 => ?_) (fun c_32 => ?_)
          · exact absurd c_32 (m1_ne (by omega))
          · refine lv_aload_n hx hb dX3_ledger_35 rfl (lv_at hl 0 rfl) ?_
            refine k_get (v := .ref (gL G 17)) X hK inX3 rfl hP (wR_g G ((u.1, wCn Y_18 cn)) (k := 0) (by decide)) 26 (by decide) tw_2_161 rfl dX3_ledger_36 ?_
            refine lv_iload_n hx hb dX3_ledger_39 rfl (lv_at hl 3 rfl) ?_
            refine lv_iload hx hb dX3_ledger_40 (lv_at hl 4 rfl) ?_
            refine k_ist (k := m1) (x := nI k) X hK hP (wR_D hL _) hS (wR_g G ((u.1, wCn Y_18 cn)) (k := 17) (by decide)) (by omega) (by decide) ((u.1, wCn (wCn Y_18 cn) (va_up (cn) m1 k))) (rs_Cn G ((u.1, wCn Y_18 cn)) m1 k) dX3_ledger_42 (fun H locs hP hS => ?_)
            refine lv_iinc (v := nI (m1 + 1)) (lv' := [(3, .int (nI (m1 + 1))), (0, .ref (gL G 0)), (1, .int (nI j_7)), (2, .int (y)), (4, .int (nI k))]) hx hb dX3_ledger_43 hl (k := 3) rfl (nI_add m1 1) (by decide) rfl (fun ls hl => ?_)
            refine lv_aload_n hx hb dX3_ledger_46 rfl (lv_at hl 1 rfl) ?_
            refine k_get (v := .ref (gL G 4)) X hK inX3 rfl hP (wR_g G ((u.1, wCn (wCn Y_18 cn) (va_up (cn) m1 k))) (k := 0) (by decide)) 7 (by decide) tw_2_142 rfl dX3_ledger_47 ?_
            refine lv_iload hx hb dX3_ledger_50 (lv_at hl 4 rfl) ?_
            refine k_ild (k := k) (v := eP (mPar u.1) k) X hK hP (wR_g G ((u.1, wCn (wCn Y_18 cn) (va_up (cn) m1 k))) (k := 4) (by decide)) (by omega) (by decide) rfl dX3_ledger_52 ?_
            rcases Nat.eq_zero_or_pos k with hk0 | hk0
            · refine k_ti (show eP (mPar u.1) k = -1 by rw [hk0]; rfl) ?_
              refine lv_istore (lv' := [(4, .int (-1)), (3, .int (nI (m1 + 1))), (0, .ref (gL G 0)), (1, .int (nI j_7)), (2, .int (y))]) hx hb dX3_ledger_53 hl (by decide) rfl (fun ls hl => ?_)
              refine lv_goto (tgt := 29) hx hb dX3_ledger_55 (by decide) ?_
              refine lv_iload hx hb dX3_ledger_29 (lv_at hl 0 rfl) ?_
              refine lv_iconst (v := -1) hx hb dX3_ledger_31 (by decide) ?_
              refine lv_icmp_eq (tgt := 58) hx hb dX3_ledger_32 (by decide) (fun c_32 => ?_) (fun c_32 => ?_)
              · have hE := cn_put hcn
                have hz : va_up cn m1 k m1 = 0 := by rw [va_up_self]; exact hk0
                have hm60 : m1 ≤ 60 := by omega
                clear hcn hkm
                revert hP hE hz
                generalize va_up cn m1 k = c1
                intro hP hE hz
                have hyK := y_K y
                obtain ⟨K, hKd⟩ : ∃ K, y.toInt.toNat = K := ⟨_, rfl⟩
                rw [hKd] at hyK
                have hK31 : K < 2 ^ 31 := by have := Int32.toInt_lt y; omega
                have hc10 : c1 0 = xHf u.2 j_7 := hE.1 (Nat.succ_pos _)
                refine lv_iconst (v := nI 0) hx hb dX3_ledger_58 (by decide) ?_
                refine lv_istore (lv' := [(4, .int (nI 0)), (3, .int (nI (m1 + 1))), (0, .ref (gL G 0)), (1, .int (nI j_7)), (2, .int (y))]) hx hb dX3_ledger_59 hl (by decide) rfl (fun ls hl => ?_)
                refine lv_iload_n hx hb dX3_ledger_61 rfl (lv_at hl 4 rfl) ?_
                refine k_ti (sub_0 y) ?_
                refine lv_istore (lv' := [(5, .int (y - nI 0)), (4, .int (nI 0)), (3, .int (nI (m1 + 1))), (0, .ref (gL G 0)), (1, .int (nI j_7)), (2, .int (y))]) hx hb dX3_ledger_62 hl (by decide) rfl (fun ls hl => ?_)
                refine lv_iload_n hx hb dX3_ledger_64 rfl (lv_at hl 2 rfl) ?_
                refine lv_iconst (v := nI 1) hx hb dX3_ledger_65 (by decide) ?_
                refine lv_isub hx hb dX3_ledger_66 ?_
                refine k_ti (y := nI m1) (pk_sub (by omega)) ?_
                refine lv_istore (lv' := [(6, .int (nI m1)), (5, .int (y - nI 0)), (4, .int (nI 0)), (3, .int (nI (m1 + 1))), (0, .ref (gL G 0)), (1, .int (nI j_7)), (2, .int (y))]) hx hb dX3_ledger_67 hl (by decide) rfl (fun ls hl => ?_)
                have loop_69 : ∀ (d_69 : Nat) (i : Nat) (ah : Int32) (d : Nat), i = d_69 → (i ≤ m1) → (d ≤ 32 * (m1 - i)) → (y < 0 ∨ (y = nI K ∧ d ≤ K ∧ ldg u.1 (xCh u.2 (xHf u.2 j_7)) (mT u.1) 0 0 K = ldg u.1 (xCh u.2 (xHf u.2 j_7)) (mT u.1 - c1 i) (c1 i) ah (K - d))) → ∀ (H : Heap) (locs : List Loc) (ls : Array Slot), va_P (gD G) vwCl ((wR G) ((u.1, wCn Y_18 c1))) H → va_S (AR G) s.heap H locs → lv_has ls 9 [(0, .ref (gL G 0)), (1, .int (nI j_7)), (2, .int (y)), (3, .int (nI (m1 + 1))), (4, .int (ah)), (5, .int (y - nI d)), (6, .int (nI i))] → W p l e ({ frames := 3, cells := 0, slots := 0, locals := 70 } : Room) s m ([.ref (gL G 0), .int ((nI j_7)), .int (y)] : List Value).toArray below meth c H locs 0 0 (MQ below (va_Qi (fun zz rr => RP (gn G) (pLedger (gn G) u (nI j_7) y) zz rr) (KB G (wR G)) (AR G)) ([.ref (gL G 0), .int ((nI j_7)), .int (y)] : List Value).toArray s 0 0 (AR G)) (F0 m 69 ls []) := by
                  intro d_69
                  induction d_69 using Nat.strongRecOn with
                  | ind d_69 ih_69 =>
                    intro i ah d hd_69 hi hd hres H locs ls hP hS hl
                    obtain ⟨hci, hcb⟩ := cn_ch hI.1.2.2.2.2.2.2.2.2.1 kPar hHf hE i (by omega)
                    have hcc : xCh u.2 (xHf u.2 j_7) (c1 i) = true := by rw [hcb _ (Nat.le_refl _)]; exact ch_self hI.1.2.2.2.2.2.2.2.2.1 hci
                    refine lv_iload hx hb dX3_ledger_69 (lv_at hl 6 rfl) ?_
                    refine lv_if_lt (tgt := 144) hx hb dX3_ledger_71 (by decide) (fun c_71 => ?_) (fun c_71 => ?_)
                    · have c_71 : i < 0 := czLt c_71 (by omega) (by omega)
                      exact absurd c_71 (Nat.not_lt_zero _)
                    · have c_71 : 0 ≤ i := czNlt c_71 (by omega) (by omega)
                      refine lv_aload_n hx hb dX3_ledger_74 rfl (lv_at hl 0 rfl) ?_
                      refine k_get (v := .ref (gL G 6)) X hK inX3 rfl hP (wR_g G ((u.1, wCn Y_18 c1)) (k := 0) (by decide)) 9 (by decide) tw_2_144 rfl dX3_ledger_75 ?_
                      refine lv_aload_n hx hb dX3_ledger_78 rfl (lv_at hl 0 rfl) ?_
                      refine k_get (v := .ref (gL G 17)) X hK inX3 rfl hP (wR_g G ((u.1, wCn Y_18 c1)) (k := 0) (by decide)) 26 (by decide) tw_2_161 rfl dX3_ledger_79 ?_
                      refine lv_iload hx hb dX3_ledger_82 (lv_at hl 6 rfl) ?_
                      refine k_ild (k := i) (v := nI (c1 i)) X hK hP (wR_g G ((u.1, wCn Y_18 c1)) (k := 17) (by decide)) (by omega) (by decide) rfl dX3_ledger_84 ?_
                      refine k_ild (k := (c1 i)) (v := mLo u.1 (c1 i)) X hK hP (wR_g G ((u.1, wCn Y_18 c1)) (k := 6) (by decide)) (by omega) (by decide) rfl dX3_ledger_85 ?_
                      refine lv_iload hx hb dX3_ledger_86 (lv_at hl 4 rfl) ?_
                      refine lv_iconst (v := -1) hx hb dX3_ledger_88 (by decide) ?_
                      refine lv_ixor hx hb dX3_ledger_89 ?_
                      refine lv_iand hx hb dX3_ledger_90 ?_
                      obtain ⟨mo, hmo⟩ : ∃ mo, mLo u.1 (c1 i) &&& (ah ^^^ (-1)) = mo := ⟨_, rfl⟩
                      refine k_ti hmo ?_
                      have hcm := cnt_le (tI mo) 32
                      refine lv_istore (lv' := [(7, .int (mo)), (0, .ref (gL G 0)), (1, .int (nI j_7)), (2, .int (y)), (3, .int (nI (m1 + 1))), (4, .int (ah)), (5, .int (y - nI d)), (6, .int (nI i))]) hx hb dX3_ledger_91 hl (by decide) rfl (fun ls hl => ?_)
                      refine lv_iload hx hb dX3_ledger_93 (lv_at hl 5 rfl) ?_
                      refine lv_iload hx hb dX3_ledger_95 (lv_at hl 0 rfl) ?_
                      refine lv_ior hx hb dX3_ledger_97 ?_
                      refine lv_istore (lv' := [(4, .int (ah ||| mo)), (7, .int (mo)), (0, .ref (gL G 0)), (1, .int (nI j_7)), (2, .int (y)), (3, .int (nI (m1 + 1))), (5, .int (y - nI d)), (6, .int (nI i))]) hx hb dX3_ledger_98 hl (by decide) rfl (fun ls hl => ?_)
                      refine lv_iconst (v := nI 0) hx hb dX3_ledger_100 (by decide) ?_
                      refine lv_istore (lv' := [(8, .int (nI 0)), (4, .int (ah ||| mo)), (7, .int (mo)), (0, .ref (gL G 0)), (1, .int (nI j_7)), (2, .int (y)), (3, .int (nI (m1 + 1))), (5, .int (y - nI d)), (6, .int (nI i))]) hx hb dX3_ledger_101 hl (by decide) rfl (fun ls hl => ?_)
                      have loop_103 : ∀ (d_103 : Nat) (q : Nat), 32 - q = d_103 → (q ≤ 32) → (y < 0 ∨ d + cnt (tI mo) q ≤ K) → ∀ (H : Heap) (locs : List Loc) (ls : Array Slot), va_P (gD G) vwCl ((wR G) ((u.1, wCn Y_18 c1))) H → va_S (AR G) s.heap H locs → lv_has ls 9 [(0, .ref (gL G 0)), (1, .int (nI j_7)), (2, .int (y)), (3, .int (nI (m1 + 1))), (4, .int (ah ||| mo)), (5, .int (y - nI (d + cnt (tI mo) q))), (6, .int (nI i)), (7, .int (mo)), (8, .int (nI q))] → W p l e ({ frames := 3, cells := 0, slots := 0, locals := 70 } : Room) s m ([.ref (gL G 0), .int ((nI j_7)), .int (y)] : List Value).toArray below meth c H locs 0 0 (MQ below (va_Qi (fun zz rr => RP (gn G) (pLedger (gn G) u (nI j_7) y) zz rr) (KB G (wR G)) (AR G)) ([.ref (gL G 0), .int ((nI j_7)), .int (y)] : List Value).toArray s 0 0 (AR G)) (F0 m 103 ls []) := by
                        intro d_103
                        induction d_103 using Nat.strongRecOn with
                        | ind d_103 ih_103 =>
                          intro q hd_103 hq hres2 H locs ls hP hS hl
                          have hcq := cnt_le (tI mo) q
                          refine lv_iload hx hb dX3_ledger_103 (lv_at hl 8 rfl) ?_
                          refine lv_bipush (v := nI 32) hx hb dX3_ledger_105 (by decide) ?_
                          refine lv_icmp_ge (tgt := 138) hx hb dX3_ledger_107 (by decide) (fun c_107 => ?_) (fun c_107 => ?_)
                          · have c_107 : 32 ≤ q := cLe c_107 (by omega) (by omega)
                            obtain rfl : q = 32 := by omega
                            rcases Nat.eq_zero_or_pos i with hi0 | hi0
                            · rw [hi0] at hl
                              refine lv_iinc (v := -1) (lv' := [(6, .int (-1)), (0, .ref (gL G 0)), (1, .int (nI j_7)), (2, .int (y)), (3, .int (nI (m1 + 1))), (4, .int (ah ||| mo)), (5, .int (y - nI (d + cnt (tI mo) 32))), (7, .int (mo)), (8, .int (nI 32))]) hx hb dX3_ledger_138 hl (k := 6) rfl (by decide) (by decide) rfl (fun ls hl => ?_)
                              refine lv_goto (tgt := 69) hx hb dX3_ledger_141 (by decide) ?_
                              refine lv_iload hx hb dX3_ledger_69 (lv_at hl 0 rfl) ?_
                              refine lv_if_lt (tgt := 144) hx hb dX3_ledger_71 (by decide) (fun c_71 => ?_) (fun c_71 => ?_)
                              · refine lv_iconst (v := -1) hx hb dX3_ledger_144 (by decide) ?_
                                exact k_reti X hr hlocks hP hS dX3_ledger_145 (rp (w := u) (by
                                  simp only [pLedger, ix_some hj_7 (show gn G < 2 ^ 31 by omega)]
                                  by_cases h1 : y < 0
                                  · rw [if_pos h1]
                                  · have h2 := hres.resolve_left h1
                                    have h5 := hres2.resolve_left h1
                                    rw [if_neg h1, hKd, h2.2.2, ldg_blk hci hcc hmo (by omega), hi0, hc10, ldg_last hI.1.2.2.2.2.2.2.2.2.1 kPar hI.1.2.2.2.2.2.2.2.1 hHf]) (InvY_Y hY2 rfl rfl))
                              · exact absurd (by decide) c_71
                            · obtain ⟨i1, rfl⟩ : ∃ i1, i = i1 + 1 := ⟨i - 1, by omega⟩
                              refine lv_iinc (v := nI i1) (lv' := [(6, .int (nI i1)), (0, .ref (gL G 0)), (1, .int (nI j_7)), (2, .int (y)), (3, .int (nI (m1 + 1))), (4, .int (ah ||| mo)), (5, .int (y - nI (d + cnt (tI mo) 32))), (7, .int (mo)), (8, .int (nI 32))]) hx hb dX3_ledger_138 hl (k := 6) rfl (pk_m1 i1) (by decide) rfl (fun ls hl => ?_)
                              refine lv_goto (tgt := 69) hx hb dX3_ledger_141 (by decide) ?_
                              exact ih_69 (i1) (by omega) i1 (ah ||| mo) (d + cnt (tI mo) 32) rfl (by omega) (by omega) (hres.imp id fun h => ⟨h.1, by have := hres2.resolve_left (neg_no h.1 hK31); omega, by
                                have h5 := hres2.resolve_left (neg_no h.1 hK31)
                                rw [h.2.2, ldg_blk hci hcc hmo (by omega), ldg_next hI.1.2.2.2.2.2.2.2.2.1 kPar hI.1.2.2.2.2.2.2.2.1 hHf hE (by omega), Nat.sub_sub]⟩) _ _ _ hP hS (lv_sub hl [1, 2, 3, 4, 5, 6, 0] rfl)
                          · have c_107 : q < 32 := cNle c_107 (by omega) (by omega)
                            refine lv_iload hx hb dX3_ledger_110 (lv_at hl 7 rfl) ?_
                            refine lv_iload hx hb dX3_ledger_112 (lv_at hl 8 rfl) ?_
                            refine lv_iushr (v := (mo.toUInt32 >>> ((nI q).toUInt32 &&& Int32.toUInt32 31)).toInt32) hx hb dX3_ledger_114 rfl ?_
                            refine lv_iconst (v := nI 1) hx hb dX3_ledger_115 (by decide) ?_
                            refine lv_iand hx hb dX3_ledger_116 ?_
                            refine k_ti (ushr_bit mo (by omega)) ?_
                            refine lv_iconst (v := nI 1) hx hb dX3_ledger_117 (by decide) ?_
                            refine lv_icmp_ne (tgt := 132) hx hb dX3_ledger_118 (by decide) (fun c_118 => ?_) (fun c_118 => ?_)
                            · have c_118 : tI mo q = false := by
                                cases h : tI mo q
                                · rfl
                                · exact absurd (by rw [h]; rfl) c_118
                              rw [show cnt (tI mo) q = cnt (tI mo) (q + 1) by rw [cnt, c_118]; rfl] at hl
                              refine lv_iinc (v := nI (q + 1)) (lv' := [(8, .int (nI (q + 1))), (0, .ref (gL G 0)), (1, .int (nI j_7)), (2, .int (y)), (3, .int (nI (m1 + 1))), (4, .int (ah ||| mo)), (5, .int (y - nI (d + cnt (tI mo) (q + 1)))), (6, .int (nI i)), (7, .int (mo))]) hx hb dX3_ledger_132 hl (k := 8) rfl (nI_add q 1) (by decide) rfl (fun ls hl => ?_)
                              refine lv_goto (tgt := 103) hx hb dX3_ledger_135 (by decide) ?_
                              exact ih_103 (32 - (q + 1)) (by omega) (q + 1) rfl (by omega) (by
                                by_cases hneg : y < 0
                                · exact Or.inl hneg
                                refine Or.inr ?_
                                have h := hres2.resolve_left hneg
                                rw [cnt, c_118]; exact h) _ _ _ hP hS (lv_sub hl [1, 2, 3, 4, 5, 6, 7, 8, 0] rfl)
                            · have c_118 : tI mo q = true := by
                                cases h : tI mo q
                                · rw [h] at c_118; exact absurd c_118 (by decide)
                                · rfl
                              refine lv_iload hx hb dX3_ledger_121 (lv_at hl 5 rfl) ?_
                              refine lv_if_ne (tgt := 129) hx hb dX3_ledger_123 (by decide) (fun c_123 => ?_) (fun c_123 => ?_)
                              · refine lv_iinc (v := y - nI (d + cnt (tI mo) (q + 1))) (lv' := [(5, .int (y - nI (d + cnt (tI mo) (q + 1)))), (0, .ref (gL G 0)), (1, .int (nI j_7)), (2, .int (y)), (3, .int (nI (m1 + 1))), (4, .int (ah ||| mo)), (6, .int (nI i)), (7, .int (mo)), (8, .int (nI q))]) hx hb dX3_ledger_129 hl (k := 5) rfl ((sub_m1 y (d + cnt (tI mo) q)).trans (by rw [cnt, c_118]; rfl)) (by decide) rfl (fun ls hl => ?_)
                                refine lv_iinc (v := nI (q + 1)) (lv' := [(8, .int (nI (q + 1))), (5, .int (y - nI (d + cnt (tI mo) (q + 1)))), (0, .ref (gL G 0)), (1, .int (nI j_7)), (2, .int (y)), (3, .int (nI (m1 + 1))), (4, .int (ah ||| mo)), (6, .int (nI i)), (7, .int (mo))]) hx hb dX3_ledger_132 hl (k := 8) rfl (nI_add q 1) (by decide) rfl (fun ls hl => ?_)
                                refine lv_goto (tgt := 103) hx hb dX3_ledger_135 (by decide) ?_
                                exact ih_103 (32 - (q + 1)) (by omega) (q + 1) rfl (by omega) (by
                                  by_cases hneg : y < 0
                                  · exact Or.inl hneg
                                  refine Or.inr ?_
                                  have h := hres2.resolve_left hneg
                                  have h6 : y ≠ nI (d + cnt (tI mo) q) := fun e => c_123 (by rw [← e]; simp)
                                  have h7 := hyK.resolve_left (fun z => hneg z)
                                  rw [h7.1] at h6
                                  have h8 : K ≠ d + cnt (tI mo) q := fun e => h6 (by rw [e])
                                  show d + (cnt (tI mo) q + if tI mo q then 1 else 0) ≤ K
                                  rw [c_118, if_pos rfl]; omega) _ _ _ hP hS (lv_sub hl [2, 3, 4, 5, 6, 1, 7, 8, 0] rfl)
                              · refine lv_iload hx hb dX3_ledger_126 (lv_at hl 8 rfl) ?_
                                exact k_reti X hr hlocks hP hS dX3_ledger_128 (rp (w := u) (by
                                  have e1 := sub_z c_123
                                  have h1 : ¬ y < 0 := fun h => neg_ne h (by omega) e1
                                  have h2 := hres.resolve_left h1
                                  have h3 : K = d + cnt (tI mo) q := cEq (h2.1.symm.trans e1) hK31 (by omega)
                                  simp only [pLedger, ix_some hj_7 (show gn G < 2 ^ 31 by omega)]
                                  rw [if_neg h1, hKd, h2.2.2, ldg_hit hci hcc hmo (by omega) c_118 (by omega)]) (InvY_Y hY2 rfl rfl))
                      exact loop_103 _ 0 rfl (Nat.zero_le _) (hres.imp id fun h => h.2.1) _ _ _ hP hS (lv_sub hl [3, 4, 5, 6, 1, 7, 8, 2, 0] rfl)
                exact loop_69 _ m1 0 0 rfl (Nat.le_refl _) (Nat.zero_le _) (hyK.imp id fun h => ⟨h.1, Nat.zero_le _, by rw [hz]; rfl⟩) _ _ _ hP hS (lv_sub hl [4, 5, 6, 3, 2, 1, 0] rfl)
              · exact absurd rfl c_32
            · refine k_ti (eP_pos hk0) ?_
              have hpk := kPar k hk0
              refine lv_istore (lv' := [(4, .int (nI (mPar u.1 k))), (3, .int (nI (m1 + 1))), (0, .ref (gL G 0)), (1, .int (nI j_7)), (2, .int (y))]) hx hb dX3_ledger_53 hl (by decide) rfl (fun ls hl => ?_)
              refine lv_goto (tgt := 29) hx hb dX3_ledger_55 (by decide) ?_
              exact ih_29 ((mPar u.1 k)) (by omega) (mPar u.1 k) (m1 + 1) (va_up cn m1 k) rfl (cn_step kPar hcn hk0) _ _ _ hP hS (lv_sub hl [2, 3, 4, 1, 0] rfl)
      exact loop_29 _ (xHf u.2 j_7) 0 (yCn Y_18) rfl (cn_0 _ _ _) _ _ _ hP hS (lv_sub hl [2, 3, 4, 1, 0] rfl)
    · exact absurd c_10 (by decide)
  · subst hr_7
    refine lv_if_ne (tgt := 16) hx hb dX3_ledger_10 (by decide) (fun c_10 => ?_) (fun c_10 => ?_)
    · exact absurd rfl c_10
    · refine lv_bipush (v := -2) hx hb dX3_ledger_13 (by decide) ?_
      exact k_reti X hr hlocks hP hS dX3_ledger_15 (rp (w := u) (by simp only [pLedger, ix_none hz_7 (show gn G < 2 ^ 31 by omega)] <;> (first | done | rfl | (split <;> first | rfl | (split <;> first | rfl | (split <;> rfl))))) (hY))
