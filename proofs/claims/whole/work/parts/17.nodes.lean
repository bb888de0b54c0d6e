set_option maxHeartbeats 4000000 in
set_option maxRecDepth 100000 in
theorem m0_hasOneOf (l : Launch) (G : kG) (u : CS) (hL : lay G) (hk : okC G u) {e0 : Nat} (he0 : e0 ≤ 40) : KMi l G (AC G) (wC G) yX0_hasOneOf cX0_hasOneOf 3 (Option.some FieldType.boolean) ({ frames := 0, cells := 0, slots := 0, locals := 0 }) [.ref (gL G 3), .int (nI e0)] u (fun r u' => r = bI (hasEp u.1 e0) ∧ u' = u) := by
  refine K_of (by decide) (Nat.le_of_ble_eq_true rfl) ?_
  intro p e s m below meth c X hr hlocks hnm hK hP ls hl
  have hx := X.1
  have hb := X.2.1
  have hown := X.2.2.2.1
  have hts := X.2.2.2.2
  have hS : va_S (AC G) s.heap s.heap [] := va_S.rf
  have hl : lv_has ls 3 [(0, .ref (gL G 3)), (1, .int (nI e0))] := hl
  obtain ⟨kn4, kn10, kT1, kT61, kP40, kLd, kPar, kEp, kHt, kFc, kVf, kTp, kHf⟩ := id hk
  refine lv_iconst (v := nI 0) hx hb dX0_hasOneOf_0 (by decide) ?_
  refine lv_istore_n (lv' := [(2, .int (nI 0)), (0, .ref (gL G 3)), (1, .int (nI e0))]) hx hb dX0_hasOneOf_1 rfl hl (by decide) rfl (fun ls hl => ?_)
  have loop_2 : ∀ (d_2 : Nat) (i : Nat), mT u.1 - i = d_2 → (i ≤ mT u.1) → (∀ b, b < i → mEp u.1 b ≠ e0) → ∀ (H : Heap) (locs : List Loc) (ls : Array Slot), va_P (gD G) vwCl ((wC G) u) H → va_S (AC G) s.heap H locs → lv_has ls 3 [(0, .ref (gL G 3)), (1, .int (nI e0)), (2, .int (nI i))] → W p l e ({ frames := 0, cells := 0, slots := 0, locals := 0 } : Room) s m ([.ref (gL G 3), .int (nI e0)] : List Value).toArray below meth c H locs 0 0 (MQ below (va_Qi (fun r u' => r = bI (hasEp u.1 e0) ∧ u' = u) (KB G (wC G)) (AC G)) ([.ref (gL G 3), .int (nI e0)] : List Value).toArray s 0 0 (AC G)) (F0 m 2 ls []) := by
    intro d_2
    induction d_2 using Nat.strongRecOn with
    | ind d_2 ih_2 =>
      intro i hd_2 hi hne H locs ls hP hS hl
      refine lv_iload_n hx hb dX0_hasOneOf_2 rfl (lv_at hl 2 rfl) ?_
      refine lv_aload_n hx hb dX0_hasOneOf_3 rfl (lv_at hl 0 rfl) ?_
      refine k_get (v := .int (nI (mT u.1))) X hK inX0 rfl hP (wC_g G u (k := 3) (by decide)) 7 (by decide) tw_1_47 rfl dX0_hasOneOf_4 ?_
      refine lv_icmp_ge (tgt := 28) hx hb dX0_hasOneOf_7 (by decide) (fun c_7 => ?_) (fun c_7 => ?_)
      · have c_7 : (mT u.1) ≤ i := cLe c_7 (by omega) (by omega)
        refine lv_iconst (v := nI 0) hx hb dX0_hasOneOf_28 (by decide) ?_
        exact k_retz X hr hlocks hP hS dX0_hasOneOf_29 rfl ⟨by rw [show hasEp u.1 e0 = false from List.any_eq_false.mpr fun b hb => by simp [hne b (Nat.lt_of_lt_of_le (List.mem_range.mp hb) c_7)]]; rfl, rfl⟩
      · have c_7 : i < (mT u.1) := cNle c_7 (by omega) (by omega)
        refine lv_aload_n hx hb dX0_hasOneOf_10 rfl (lv_at hl 0 rfl) ?_
        refine k_get (v := .ref (gL G 5)) X hK inX0 rfl hP (wC_g G u (k := 3) (by decide)) 1 (by decide) tw_1_32 rfl dX0_hasOneOf_11 ?_
        refine lv_iload_n hx hb dX0_hasOneOf_14 rfl (lv_at hl 2 rfl) ?_
        refine k_ild (v := nI (mEp u.1 i)) X hK hP (wC_g G u (k := 5) (by decide)) (by omega) (by decide) rfl dX0_hasOneOf_15 ?_
        refine lv_iload_n hx hb dX0_hasOneOf_16 rfl (lv_at hl 1 rfl) ?_
        have hEi := kEp i
        refine lv_icmp_ne (tgt := 22) hx hb dX0_hasOneOf_17 (by decide) (fun c_17 => ?_) (fun c_17 => ?_)
        · have c_17 : (mEp u.1 i) ≠ e0 := cNe c_17 (by omega) (by omega)
          have hEi := kEp i
          refine lv_iinc (v := nI (i + 1)) (lv' := [(2, .int (nI (i + 1))), (0, .ref (gL G 3)), (1, .int (nI e0))]) hx hb dX0_hasOneOf_22 hl (k := 2) rfl (nI_add i 1) (by decide) rfl (fun ls hl => ?_)
          refine lv_goto (tgt := 2) hx hb dX0_hasOneOf_25 (by decide) ?_
          exact ih_2 (mT u.1 - (i + 1)) (by omega) (i + 1) rfl (c_7) (lt_s hne c_17) _ _ _ hP hS (lv_sub hl [1, 2, 0] rfl)
        · have c_17 : (mEp u.1 i) = e0 := cEq c_17 (by omega) (by omega)
          have hEi := kEp i
          refine lv_iconst (v := nI 1) hx hb dX0_hasOneOf_20 (by decide) ?_
          exact k_retz X hr hlocks hP hS dX0_hasOneOf_21 rfl ⟨by rw [show hasEp u.1 e0 = true from List.any_eq_true.mpr ⟨i, List.mem_range.mpr c_7, by simp [c_17]⟩]; rfl, rfl⟩
  exact loop_2 _ 0 rfl (Nat.zero_le _) (fun b h => absurd h (Nat.not_lt_zero _)) _ _ _ hP hS (lv_sub hl [1, 2, 0] rfl)

set_option maxHeartbeats 4000000 in
set_option maxRecDepth 100000 in
theorem m0_make (l : Launch) (G : kG) (u : CS) (hL : lay G) (hk : okC G u) {o e0 v : Nat} (ho : o < mT u.1) (he0 : e0 ≤ 40) (hT : mT u.1 ≤ 60) (w : Int32) : KMi l G (AC G) (wC G) yX0_make cX0_make 6 (Option.some FieldType.int) ({ frames := 0, cells := 0, slots := 0, locals := 0 }) [.ref (gL G 3), .int (nI o), .int (nI e0), .int (w), .int (nI v)] u (fun r u' => r = nI (mT u.1) ∧ u' = cMake u o e0 w v) := by
  refine K_of (by decide) (Nat.le_of_ble_eq_true rfl) ?_
  intro p e s m below meth c X hr hlocks hnm hK hP ls hl
  have hx := X.1
  have hb := X.2.1
  have hown := X.2.2.2.1
  have hts := X.2.2.2.2
  have hS : va_S (AC G) s.heap s.heap [] := va_S.rf
  have hl : lv_has ls 6 [(0, .ref (gL G 3)), (1, .int (nI o)), (2, .int (nI e0)), (3, .int (w)), (4, .int (nI v))] := hl
  obtain ⟨kn4, kn10, kT1, kT61, kP40, kLd, kPar, kEp, kHt, kFc, kVf, kTp, kHf⟩ := id hk
  refine lv_aload_n hx hb dX0_make_0 rfl (lv_at hl 0 rfl) ?_
  refine k_get (v := .int (nI (mT u.1))) X hK inX0 rfl hP (wC_g G u (k := 3) (by decide)) 7 (by decide) tw_1_47 rfl dX0_make_1 ?_
  refine lv_istore (lv' := [(5, .int (nI (mT u.1))), (0, .ref (gL G 3)), (1, .int (nI o)), (2, .int (nI e0)), (3, .int (w)), (4, .int (nI v))]) hx hb dX0_make_4 hl (by decide) rfl (fun ls hl => ?_)
  refine lv_aload_n hx hb dX0_make_6 rfl (lv_at hl 1 rfl) ?_
  refine lv_dup hx hb dX0_make_7 rfl ?_
  refine k_get (v := .int (nI (mT u.1))) X hK inX0 rfl hP (wC_g G u (k := 3) (by decide)) 7 (by decide) tw_1_47 rfl dX0_make_8 ?_
  refine lv_iconst (v := nI 1) hx hb dX0_make_11 (by decide) ?_
  refine lv_iadd hx hb dX0_make_12 ?_
  refine k_ti (nI_add (mT u.1) 1) ?_
  refine k_put (v := .int (nI ((mT u.1) + 1))) X hK inX0 rfl tyX0_ok nmX0 hP (wC_D hL _) hS (wC_g G u (k := 3) (by decide)) 7 (by decide) tw_1_47 rfl rfl rfl (Nat.le_of_ble_eq_true rfl) ((sT u.1 ((mT u.1) + 1), u.2)) (cs_T G u ((mT u.1) + 1)) dX0_make_13 (fun H locs hP hS => ?_)
  refine lv_aload_n hx hb dX0_make_16 rfl (lv_at hl 1 rfl) ?_
  refine k_get (v := .ref (gL G 4)) X hK inX0 rfl hP (wC_g G ((sT u.1 ((mT u.1) + 1), u.2)) (k := 3) (by decide)) 0 (by decide) tw_1_29 rfl dX0_make_17 ?_
  refine lv_iload hx hb dX0_make_20 (lv_at hl 0 rfl) ?_
  refine lv_iload_n hx hb dX0_make_22 rfl (lv_at hl 2 rfl) ?_
  refine k_ist (x := nI o) X hK hP (wC_D hL _) hS (wC_g G ((sT u.1 ((mT u.1) + 1), u.2)) (k := 4) (by decide)) (by omega) (by decide) ((sPar (sT u.1 ((mT u.1) + 1)) (va_up (mPar u.1) (mT u.1) o), u.2)) (cs_Par G ((sT u.1 ((mT u.1) + 1), u.2)) (k := (mT u.1)) (by omega) o) dX0_make_23 (fun H locs hP hS => ?_)
  refine lv_aload_n hx hb dX0_make_24 rfl (lv_at hl 1 rfl) ?_
  refine k_get (v := .ref (gL G 5)) X hK inX0 rfl hP (wC_g G ((sPar (sT u.1 ((mT u.1) + 1)) (va_up (mPar u.1) (mT u.1) o), u.2)) (k := 3) (by decide)) 1 (by decide) tw_1_32 rfl dX0_make_25 ?_
  refine lv_iload hx hb dX0_make_28 (lv_at hl 0 rfl) ?_
  refine lv_iload_n hx hb dX0_make_30 rfl (lv_at hl 3 rfl) ?_
  refine k_ist (x := nI e0) X hK hP (wC_D hL _) hS (wC_g G ((sPar (sT u.1 ((mT u.1) + 1)) (va_up (mPar u.1) (mT u.1) o), u.2)) (k := 5) (by decide)) (by omega) (by decide) ((sEp (sPar (sT u.1 ((mT u.1) + 1)) (va_up (mPar u.1) (mT u.1) o)) (va_up (mEp u.1) (mT u.1) e0), u.2)) (cs_Ep G ((sPar (sT u.1 ((mT u.1) + 1)) (va_up (mPar u.1) (mT u.1) o), u.2)) (mT u.1) e0) dX0_make_31 (fun H locs hP hS => ?_)
  refine lv_aload_n hx hb dX0_make_32 rfl (lv_at hl 1 rfl) ?_
  refine k_get (v := .ref (gL G 6)) X hK inX0 rfl hP (wC_g G ((sEp (sPar (sT u.1 ((mT u.1) + 1)) (va_up (mPar u.1) (mT u.1) o)) (va_up (mEp u.1) (mT u.1) e0), u.2)) (k := 3) (by decide)) 2 (by decide) tw_1_35 rfl dX0_make_33 ?_
  refine lv_iload hx hb dX0_make_36 (lv_at hl 0 rfl) ?_
  refine lv_iload_n hx hb dX0_make_38 rfl (lv_at hl 4 rfl) ?_
  refine k_ist (x := w) X hK hP (wC_D hL _) hS (wC_g G ((sEp (sPar (sT u.1 ((mT u.1) + 1)) (va_up (mPar u.1) (mT u.1) o)) (va_up (mEp u.1) (mT u.1) e0), u.2)) (k := 6) (by decide)) (by omega) (by decide) ((sLo (sEp (sPar (sT u.1 ((mT u.1) + 1)) (va_up (mPar u.1) (mT u.1) o)) (va_up (mEp u.1) (mT u.1) e0)) (va_up (mLo u.1) (mT u.1) w), u.2)) (cs_Lo G ((sEp (sPar (sT u.1 ((mT u.1) + 1)) (va_up (mPar u.1) (mT u.1) o)) (va_up (mEp u.1) (mT u.1) e0), u.2)) (mT u.1) w) dX0_make_39 (fun H locs hP hS => ?_)
  refine lv_aload_n hx hb dX0_make_40 rfl (lv_at hl 1 rfl) ?_
  refine k_get (v := .ref (gL G 7)) X hK inX0 rfl hP (wC_g G ((sLo (sEp (sPar (sT u.1 ((mT u.1) + 1)) (va_up (mPar u.1) (mT u.1) o)) (va_up (mEp u.1) (mT u.1) e0)) (va_up (mLo u.1) (mT u.1) w), u.2)) (k := 3) (by decide)) 3 (by decide) tw_1_37 rfl dX0_make_41 ?_
  refine lv_iload hx hb dX0_make_44 (lv_at hl 0 rfl) ?_
  refine lv_aload_n hx hb dX0_make_46 rfl (lv_at hl 1 rfl) ?_
  refine k_get (v := .ref (gL G 7)) X hK inX0 rfl hP (wC_g G ((sLo (sEp (sPar (sT u.1 ((mT u.1) + 1)) (va_up (mPar u.1) (mT u.1) o)) (va_up (mEp u.1) (mT u.1) e0)) (va_up (mLo u.1) (mT u.1) w), u.2)) (k := 3) (by decide)) 3 (by decide) tw_1_37 rfl dX0_make_47 ?_
  refine lv_iload_n hx hb dX0_make_50 rfl (lv_at hl 2 rfl) ?_
  refine k_ild (v := nI (mHt u.1 o)) X hK hP (wC_g G ((sLo (sEp (sPar (sT u.1 ((mT u.1) + 1)) (va_up (mPar u.1) (mT u.1) o)) (va_up (mEp u.1) (mT u.1) e0)) (va_up (mLo u.1) (mT u.1) w), u.2)) (k := 7) (by decide)) (by omega) (by decide) rfl dX0_make_51 ?_
  refine lv_iconst (v := nI 1) hx hb dX0_make_52 (by decide) ?_
  refine lv_iadd hx hb dX0_make_53 ?_
  refine k_ti (nI_add (mHt u.1 o) 1) ?_
  refine k_ist (x := nI ((mHt u.1 o) + 1)) X hK hP (wC_D hL _) hS (wC_g G ((sLo (sEp (sPar (sT u.1 ((mT u.1) + 1)) (va_up (mPar u.1) (mT u.1) o)) (va_up (mEp u.1) (mT u.1) e0)) (va_up (mLo u.1) (mT u.1) w), u.2)) (k := 7) (by decide)) (by omega) (by decide) ((sHt (sLo (sEp (sPar (sT u.1 ((mT u.1) + 1)) (va_up (mPar u.1) (mT u.1) o)) (va_up (mEp u.1) (mT u.1) e0)) (va_up (mLo u.1) (mT u.1) w)) (va_up (mHt u.1) (mT u.1) ((mHt u.1 o) + 1)), u.2)) (cs_Ht G ((sLo (sEp (sPar (sT u.1 ((mT u.1) + 1)) (va_up (mPar u.1) (mT u.1) o)) (va_up (mEp u.1) (mT u.1) e0)) (va_up (mLo u.1) (mT u.1) w), u.2)) (mT u.1) ((mHt u.1 o) + 1)) dX0_make_54 (fun H locs hP hS => ?_)
  refine lv_aload_n hx hb dX0_make_55 rfl (lv_at hl 1 rfl) ?_
  refine k_get (v := .ref (gL G 8)) X hK inX0 rfl hP (wC_g G ((sHt (sLo (sEp (sPar (sT u.1 ((mT u.1) + 1)) (va_up (mPar u.1) (mT u.1) o)) (va_up (mEp u.1) (mT u.1) e0)) (va_up (mLo u.1) (mT u.1) w)) (va_up (mHt u.1) (mT u.1) ((mHt u.1 o) + 1)), u.2)) (k := 3) (by decide)) 4 (by decide) tw_1_40 rfl dX0_make_56 ?_
  refine lv_iload hx hb dX0_make_59 (lv_at hl 0 rfl) ?_
  refine lv_iload hx hb dX0_make_61 (lv_at hl 5 rfl) ?_
  refine k_ist (x := nI v) X hK hP (wC_D hL _) hS (wC_g G ((sHt (sLo (sEp (sPar (sT u.1 ((mT u.1) + 1)) (va_up (mPar u.1) (mT u.1) o)) (va_up (mEp u.1) (mT u.1) e0)) (va_up (mLo u.1) (mT u.1) w)) (va_up (mHt u.1) (mT u.1) ((mHt u.1 o) + 1)), u.2)) (k := 8) (by decide)) (by omega) (by decide) ((sMk (sHt (sLo (sEp (sPar (sT u.1 ((mT u.1) + 1)) (va_up (mPar u.1) (mT u.1) o)) (va_up (mEp u.1) (mT u.1) e0)) (va_up (mLo u.1) (mT u.1) w)) (va_up (mHt u.1) (mT u.1) ((mHt u.1 o) + 1))) (va_up (mMk u.1) (mT u.1) v), u.2)) (cs_Mk G ((sHt (sLo (sEp (sPar (sT u.1 ((mT u.1) + 1)) (va_up (mPar u.1) (mT u.1) o)) (va_up (mEp u.1) (mT u.1) e0)) (va_up (mLo u.1) (mT u.1) w)) (va_up (mHt u.1) (mT u.1) ((mHt u.1 o) + 1)), u.2)) (k := (mT u.1)) (by omega) v) dX0_make_63 (fun H locs hP hS => ?_)
  refine lv_aload_n hx hb dX0_make_64 rfl (lv_at hl 1 rfl) ?_
  refine k_get (v := .ref (gL G 9)) X hK inX0 rfl hP (wC_g G ((sMk (sHt (sLo (sEp (sPar (sT u.1 ((mT u.1) + 1)) (va_up (mPar u.1) (mT u.1) o)) (va_up (mEp u.1) (mT u.1) e0)) (va_up (mLo u.1) (mT u.1) w)) (va_up (mHt u.1) (mT u.1) ((mHt u.1 o) + 1))) (va_up (mMk u.1) (mT u.1) v), u.2)) (k := 3) (by decide)) 5 (by decide) tw_1_42 rfl dX0_make_65 ?_
  refine lv_iload hx hb dX0_make_68 (lv_at hl 0 rfl) ?_
  refine lv_aload_n hx hb dX0_make_70 rfl (lv_at hl 1 rfl) ?_
  refine k_get (v := .ref (gL G 9)) X hK inX0 rfl hP (wC_g G ((sMk (sHt (sLo (sEp (sPar (sT u.1 ((mT u.1) + 1)) (va_up (mPar u.1) (mT u.1) o)) (va_up (mEp u.1) (mT u.1) e0)) (va_up (mLo u.1) (mT u.1) w)) (va_up (mHt u.1) (mT u.1) ((mHt u.1 o) + 1))) (va_up (mMk u.1) (mT u.1) v), u.2)) (k := 3) (by decide)) 5 (by decide) tw_1_42 rfl dX0_make_71 ?_
  refine lv_iload_n hx hb dX0_make_74 rfl (lv_at hl 2 rfl) ?_
  refine k_lld (v := eL (xCh u.2 o)) X hK hP (wC_g G ((sMk (sHt (sLo (sEp (sPar (sT u.1 ((mT u.1) + 1)) (va_up (mPar u.1) (mT u.1) o)) (va_up (mEp u.1) (mT u.1) e0)) (va_up (mLo u.1) (mT u.1) w)) (va_up (mHt u.1) (mT u.1) ((mHt u.1 o) + 1))) (va_up (mMk u.1) (mT u.1) v), u.2)) (k := 9) (by decide)) (by omega) (by decide) rfl dX0_make_75 ?_
  refine lv_lconst (v := 1) hx hb dX0_make_76 rfl ?_
  refine lv_iload hx hb dX0_make_77 (lv_at hl 0 rfl) ?_
  refine lv_lshl (v := (1 : Int64) <<< ((nI (mT u.1)).toInt64 &&& 63)) hx hb dX0_make_79 rfl ?_
  refine lv_lor hx hb dX0_make_80 ?_
  refine k_tl (eL_or (xCh u.2 o) (by omega)) ?_
  refine k_lst (x := eL (va_up (xCh u.2 o) (mT u.1) true)) X hK hP (wC_D hL _) hS (wC_g G ((sMk (sHt (sLo (sEp (sPar (sT u.1 ((mT u.1) + 1)) (va_up (mPar u.1) (mT u.1) o)) (va_up (mEp u.1) (mT u.1) e0)) (va_up (mLo u.1) (mT u.1) w)) (va_up (mHt u.1) (mT u.1) ((mHt u.1 o) + 1))) (va_up (mMk u.1) (mT u.1) v), u.2)) (k := 9) (by decide)) (by omega) (by decide) (((sMk (sHt (sLo (sEp (sPar (sT u.1 ((mT u.1) + 1)) (va_up (mPar u.1) (mT u.1) o)) (va_up (mEp u.1) (mT u.1) e0)) (va_up (mLo u.1) (mT u.1) w)) (va_up (mHt u.1) (mT u.1) ((mHt u.1 o) + 1))) (va_up (mMk u.1) (mT u.1) v)), tCh u.2 (va_up (xCh u.2) (mT u.1) ((va_up (xCh u.2 o) (mT u.1) true))))) (cs_Ch G ((sMk (sHt (sLo (sEp (sPar (sT u.1 ((mT u.1) + 1)) (va_up (mPar u.1) (mT u.1) o)) (va_up (mEp u.1) (mT u.1) e0)) (va_up (mLo u.1) (mT u.1) w)) (va_up (mHt u.1) (mT u.1) ((mHt u.1 o) + 1))) (va_up (mMk u.1) (mT u.1) v), u.2)) (mT u.1) ((va_up (xCh u.2 o) (mT u.1) true))) dX0_make_81 (fun H locs hP hS => ?_)
  refine lv_aload_n hx hb dX0_make_82 rfl (lv_at hl 1 rfl) ?_
  refine k_get (v := .ref (gL G 10)) X hK inX0 rfl hP (wC_g G (((sMk (sHt (sLo (sEp (sPar (sT u.1 ((mT u.1) + 1)) (va_up (mPar u.1) (mT u.1) o)) (va_up (mEp u.1) (mT u.1) e0)) (va_up (mLo u.1) (mT u.1) w)) (va_up (mHt u.1) (mT u.1) ((mHt u.1 o) + 1))) (va_up (mMk u.1) (mT u.1) v)), tCh u.2 (va_up (xCh u.2) (mT u.1) ((va_up (xCh u.2 o) (mT u.1) true))))) (k := 3) (by decide)) 6 (by decide) tw_1_45 rfl dX0_make_83 ?_
  refine lv_iload hx hb dX0_make_86 (lv_at hl 0 rfl) ?_
  refine lv_aload_n hx hb dX0_make_88 rfl (lv_at hl 1 rfl) ?_
  refine k_get (v := .ref (gL G 10)) X hK inX0 rfl hP (wC_g G (((sMk (sHt (sLo (sEp (sPar (sT u.1 ((mT u.1) + 1)) (va_up (mPar u.1) (mT u.1) o)) (va_up (mEp u.1) (mT u.1) e0)) (va_up (mLo u.1) (mT u.1) w)) (va_up (mHt u.1) (mT u.1) ((mHt u.1 o) + 1))) (va_up (mMk u.1) (mT u.1) v)), tCh u.2 (va_up (xCh u.2) (mT u.1) ((va_up (xCh u.2 o) (mT u.1) true))))) (k := 3) (by decide)) 6 (by decide) tw_1_45 rfl dX0_make_89 ?_
  refine lv_iload_n hx hb dX0_make_92 rfl (lv_at hl 2 rfl) ?_
  refine k_ild (v := xCl u.2 o) X hK hP (wC_g G (((sMk (sHt (sLo (sEp (sPar (sT u.1 ((mT u.1) + 1)) (va_up (mPar u.1) (mT u.1) o)) (va_up (mEp u.1) (mT u.1) e0)) (va_up (mLo u.1) (mT u.1) w)) (va_up (mHt u.1) (mT u.1) ((mHt u.1 o) + 1))) (va_up (mMk u.1) (mT u.1) v)), tCh u.2 (va_up (xCh u.2) (mT u.1) ((va_up (xCh u.2 o) (mT u.1) true))))) (k := 10) (by decide)) (by omega) (by decide) rfl dX0_make_93 ?_
  refine lv_iload_n hx hb dX0_make_94 rfl (lv_at hl 4 rfl) ?_
  refine lv_ior hx hb dX0_make_95 ?_
  refine k_ist (x := (xCl u.2 o) ||| w) X hK hP (wC_D hL _) hS (wC_g G (((sMk (sHt (sLo (sEp (sPar (sT u.1 ((mT u.1) + 1)) (va_up (mPar u.1) (mT u.1) o)) (va_up (mEp u.1) (mT u.1) e0)) (va_up (mLo u.1) (mT u.1) w)) (va_up (mHt u.1) (mT u.1) ((mHt u.1 o) + 1))) (va_up (mMk u.1) (mT u.1) v)), tCh u.2 (va_up (xCh u.2) (mT u.1) ((va_up (xCh u.2 o) (mT u.1) true))))) (k := 10) (by decide)) (by omega) (by decide) ((((sMk (sHt (sLo (sEp (sPar (sT u.1 ((mT u.1) + 1)) (va_up (mPar u.1) (mT u.1) o)) (va_up (mEp u.1) (mT u.1) e0)) (va_up (mLo u.1) (mT u.1) w)) (va_up (mHt u.1) (mT u.1) ((mHt u.1 o) + 1))) (va_up (mMk u.1) (mT u.1) v))), tCl (tCh u.2 (va_up (xCh u.2) (mT u.1) ((va_up (xCh u.2 o) (mT u.1) true)))) (va_up (xCl u.2) (mT u.1) ((xCl u.2 o) ||| w)))) (cs_Cl G (((sMk (sHt (sLo (sEp (sPar (sT u.1 ((mT u.1) + 1)) (va_up (mPar u.1) (mT u.1) o)) (va_up (mEp u.1) (mT u.1) e0)) (va_up (mLo u.1) (mT u.1) w)) (va_up (mHt u.1) (mT u.1) ((mHt u.1 o) + 1))) (va_up (mMk u.1) (mT u.1) v)), tCh u.2 (va_up (xCh u.2) (mT u.1) ((va_up (xCh u.2 o) (mT u.1) true))))) (mT u.1) ((xCl u.2 o) ||| w)) dX0_make_96 (fun H locs hP hS => ?_)
  refine lv_iload hx hb dX0_make_97 (lv_at hl 0 rfl) ?_
  exact k_reti X hr hlocks hP hS dX0_make_99 ⟨rfl, rfl⟩

set_option maxHeartbeats 4000000 in
set_option maxRecDepth 100000 in
theorem m1_expectProposal (l : Launch) (G : kG) (u : CS) (hL : lay G) (hk : okC G u) {v : Nat} (hv : v < gn G) {b : Nat} (hbb : b ≤ 60) : KMi l G (AC G) (wC G) yX1_expectProposal cX1_expectProposal 3 (Option.some FieldType.boolean) ({ frames := 1, cells := 0, slots := 0, locals := 22 }) [.ref (gL G (11 + 5 * v)), .int (nI b)] u (fun r u' => r = bI (newL u.1 (11 * b) v) ∧ u' = (mExp u.1 (11 * b) v, u.2)) := by
  refine K_of (by decide) (Nat.le_of_ble_eq_true rfl) ?_
  intro p e s m below meth c X hr hlocks hnm hK hP ls hl
  have hx := X.1
  have hb := X.2.1
  have hown := X.2.2.2.1
  have hts := X.2.2.2.2
  have hS : va_S (AC G) s.heap s.heap [] := va_S.rf
  have hl : lv_has ls 3 [(0, .ref (gL G (11 + 5 * v))), (1, .int (nI b))] := hl
  obtain ⟨kn4, kn10, kT1, kT61, kP40, kLd, kPar, kEp, kHt, kFc, kVf, kTp, kHf⟩ := id hk
  refine lv_aload_n hx hb dX1_expectProposal_0 rfl (lv_at hl 0 rfl) ?_
  refine k_get (v := .long (eL (pB (mHs u.1) v))) X hK inX1 rfl hP (wC_n0 G u hv) 5 (by decide) tw_1_85 rfl dX1_expectProposal_1 ?_
  refine lv_aload_n hx hb dX1_expectProposal_4 rfl (lv_at hl 0 rfl) ?_
  refine k_get (v := .long (eL (pB (mWy u.1) v))) X hK inX1 rfl hP (wC_n0 G u hv) 6 (by decide) tw_1_87 rfl dX1_expectProposal_5 ?_
  refine lv_lor hx hb dX1_expectProposal_8 ?_
  refine k_tl (eL_lor ((pB (mHs u.1) v)) ((pB (mWy u.1) v))) ?_
  refine lv_iload_n hx hb dX1_expectProposal_9 rfl (lv_at hl 1 rfl) ?_
  refine k_ci (k_runSN (As := [.long (eL (fun k => ((pB (mHs u.1) v)) k || ((pB (mWy u.1) v)) k)), .int (nI b)]) (rest := []) X hK hP (m2_holds l G (AC G) (wC G) u (eL (fun k => ((pB (mHs u.1) v)) k || ((pB (mWy u.1) v)) k)) (k := b) (by omega)) ⟨rfl, rfl⟩ ntw_1_210 tw_1_211 tw_1_1 tw_1_212 ⟨by decide +kernel, by decide +kernel, (by decide +kernel : (parseMethodDescriptor yX2_holds.desc).map (fun d => d.parameters.length) = some 2)⟩ ⟨Nat.le_of_ble_eq_true rfl, Nat.le_of_ble_eq_true rfl⟩ hl.1 rfl (Nat.le_of_ble_eq_true rfl) ⟨Nat.zero_le _, Nat.zero_le _⟩ dX1_expectProposal_10) hS (fun r_10 u_10 H locs hq_10 hP hS => ?_)
  have hP := k_su hq_10.2 hP
  refine k_ti (y := bI (mHs u.1 (11 * b) v || mWy u.1 (11 * b) v)) (hq_10.1.trans (congrArg bI (tL_eL _ (by omega)))) ?_
  refine lv_if_ne (tgt := 20) hx hb dX1_expectProposal_13 (by decide) (fun c_13 => ?_) (fun c_13 => ?_)
  · have c_13 : (mHs u.1 (11 * b) v || mWy u.1 (11 * b) v) = true := (bI_ne0 _).mp c_13
    refine lv_iconst (v := nI 0) hx hb dX1_expectProposal_20 (by decide) ?_
    refine lv_istore_n (lv' := [(2, .int (nI 0)), (0, .ref (gL G (11 + 5 * v))), (1, .int (nI b))]) hx hb dX1_expectProposal_21 rfl hl (by decide) rfl (fun ls hl => ?_)
    refine lv_iload_n hx hb dX1_expectProposal_22 rfl (lv_at hl 0 rfl) ?_
    refine lv_if_eq (tgt := 38) hx hb dX1_expectProposal_23 (by decide) (fun c_23 => ?_) (fun c_23 => ?_)
    · refine lv_iload_n hx hb dX1_expectProposal_38 rfl (lv_at hl 0 rfl) ?_
      exact k_retz X hr hlocks hP hS dX1_expectProposal_39 rfl ⟨by rw [show newL u.1 (11 * b) v = false from by simp only [newL, c_13]; rfl]; rfl, by rw [mExp, if_neg (show ¬ newL u.1 (11 * b) v = true from by simp only [newL, c_13]; decide)]⟩
    · exact absurd rfl c_23
  · have c_13 : (mHs u.1 (11 * b) v || mWy u.1 (11 * b) v) = false := (bI_eq0 _).mp c_13
    refine lv_iconst (v := nI 1) hx hb dX1_expectProposal_16 (by decide) ?_
    refine lv_goto (tgt := 21) hx hb dX1_expectProposal_17 (by decide) ?_
    refine lv_istore_n (lv' := [(2, .int (nI 1)), (0, .ref (gL G (11 + 5 * v))), (1, .int (nI b))]) hx hb dX1_expectProposal_21 rfl hl (by decide) rfl (fun ls hl => ?_)
    refine lv_iload_n hx hb dX1_expectProposal_22 rfl (lv_at hl 0 rfl) ?_
    refine lv_if_eq (tgt := 38) hx hb dX1_expectProposal_23 (by decide) (fun c_23 => ?_) (fun c_23 => ?_)
    · exact absurd c_23 (by decide)
    · refine lv_aload_n hx hb dX1_expectProposal_26 rfl (lv_at hl 1 rfl) ?_
      refine lv_dup hx hb dX1_expectProposal_27 rfl ?_
      refine k_get (v := .long (eL (pB (mWy u.1) v))) X hK inX1 rfl hP (wC_n0 G u hv) 6 (by decide) tw_1_87 rfl dX1_expectProposal_28 ?_
      refine lv_lconst (v := 1) hx hb dX1_expectProposal_31 rfl ?_
      refine lv_iload_n hx hb dX1_expectProposal_32 rfl (lv_at hl 2 rfl) ?_
      refine lv_lshl (v := (1 : Int64) <<< ((nI b).toInt64 &&& 63)) hx hb dX1_expectProposal_33 rfl ?_
      refine lv_lor hx hb dX1_expectProposal_34 ?_
      refine k_tl (eL_or ((pB (mWy u.1) v)) (by omega)) ?_
      refine k_put (v := .long (eL (va_up ((pB (mWy u.1) v)) b true))) X hK inX1 rfl tyX1_ok nmX1 hP (wC_D hL _) hS (wC_n0 G u hv) 6 (by decide) tw_1_87 rfl rfl rfl (Nat.le_of_ble_eq_true rfl) ((sWy u.1 (up2 (mWy u.1) (11 * b) v true), u.2)) (cn_Wy G u hv b true) dX1_expectProposal_35 (fun H locs hP hS => ?_)
      refine lv_iload_n hx hb dX1_expectProposal_38 rfl (lv_at hl 0 rfl) ?_
      exact k_retz X hr hlocks hP hS dX1_expectProposal_39 rfl ⟨by rw [show newL u.1 (11 * b) v = true from by simp only [newL, c_13]; rfl]; rfl, by rw [mExp, if_pos (show newL u.1 (11 * b) v = true from by simp only [newL, c_13]; rfl)]⟩

set_option maxHeartbeats 4000000 in
set_option maxRecDepth 100000 in
theorem m1_expectVote (l : Launch) (G : kG) (u : CS) (hL : lay G) (hk : okC G u) {v : Nat} (hv : v < gn G) {b x : Nat} (hbb : b ≤ 60) (hxx : x < 10) : KMi l G (AC G) (wC G) yX1_expectVote cX1_expectVote 4 (Option.some FieldType.boolean) ({ frames := 1, cells := 0, slots := 0, locals := 22 }) [.ref (gL G (11 + 5 * v)), .int (nI x), .int (nI b)] u (fun r u' => r = bI (newL u.1 (11 * b + 1 + x) v) ∧ u' = (mExp u.1 (11 * b + 1 + x) v, u.2)) := by
  refine K_of (by decide) (Nat.le_of_ble_eq_true rfl) ?_
  intro p e s m below meth c X hr hlocks hnm hK hP ls hl
  have hx := X.1
  have hb := X.2.1
  have hown := X.2.2.2.1
  have hts := X.2.2.2.2
  have hS : va_S (AC G) s.heap s.heap [] := va_S.rf
  have hl : lv_has ls 4 [(0, .ref (gL G (11 + 5 * v))), (1, .int (nI x)), (2, .int (nI b))] := hl
  obtain ⟨kn4, kn10, kT1, kT61, kP40, kLd, kPar, kEp, kHt, kFc, kVf, kTp, kHf⟩ := id hk
  refine lv_aload_n hx hb dX1_expectVote_0 rfl (lv_at hl 0 rfl) ?_
  refine k_get (v := .ref (gL G (12 + 5 * v))) X hK inX1 rfl hP (wC_n0 G u hv) 7 (by decide) tw_1_89 rfl dX1_expectVote_1 ?_
  refine lv_iload_n hx hb dX1_expectVote_4 rfl (lv_at hl 2 rfl) ?_
  refine k_ild (v := eI (vB (mHs u.1) b v)) X hK hP (wC_n1 G u hv) (by omega) (by decide) rfl dX1_expectVote_5 ?_
  refine lv_aload_n hx hb dX1_expectVote_6 rfl (lv_at hl 0 rfl) ?_
  refine k_get (v := .ref (gL G (13 + 5 * v))) X hK inX1 rfl hP (wC_n0 G u hv) 8 (by decide) tw_1_91 rfl dX1_expectVote_7 ?_
  refine lv_iload_n hx hb dX1_expectVote_10 rfl (lv_at hl 2 rfl) ?_
  refine k_ild (v := eI (vB (mWy u.1) b v)) X hK hP (wC_n2 G u hv) (by omega) (by decide) rfl dX1_expectVote_11 ?_
  refine lv_ior hx hb dX1_expectVote_12 ?_
  refine k_ti (eI_ior (vB (mHs u.1) b v) (vB (mWy u.1) b v)) ?_
  refine lv_i2l (v := (eI (fun k => (vB (mHs u.1) b v) k || (vB (mWy u.1) b v) k)).toInt64) hx hb dX1_expectVote_13 rfl ?_
  refine lv_iload_n hx hb dX1_expectVote_14 rfl (lv_at hl 1 rfl) ?_
  refine k_ci (k_runSN (As := [.long ((eI (fun k => (vB (mHs u.1) b v) k || (vB (mWy u.1) b v) k)).toInt64), .int (nI x)]) (rest := []) X hK hP (m2_holds l G (AC G) (wC G) u ((eI (fun k => (vB (mHs u.1) b v) k || (vB (mWy u.1) b v) k)).toInt64) (k := x) (by omega)) ⟨rfl, rfl⟩ ntw_1_210 tw_1_211 tw_1_1 tw_1_212 ⟨by decide +kernel, by decide +kernel, (by decide +kernel : (parseMethodDescriptor yX2_holds.desc).map (fun d => d.parameters.length) = some 2)⟩ ⟨Nat.le_of_ble_eq_true rfl, Nat.le_of_ble_eq_true rfl⟩ hl.1 rfl (Nat.le_of_ble_eq_true rfl) ⟨Nat.zero_le _, Nat.zero_le _⟩ dX1_expectVote_15) hS (fun r_15 u_15 H locs hq_15 hP hS => ?_)
  have hP := k_su hq_15.2 hP
  refine k_ti (y := bI (mHs u.1 (11 * b + 1 + x) v || mWy u.1 (11 * b + 1 + x) v)) (hq_15.1.trans (congrArg bI ((tL_wide _ (by omega)).trans ((tI_eI _ (by omega)).trans (by simp only [vB, decide_eq_true hxx, Bool.true_and]))))) ?_
  refine lv_if_ne (tgt := 25) hx hb dX1_expectVote_18 (by decide) (fun c_18 => ?_) (fun c_18 => ?_)
  · have c_18 : (mHs u.1 (11 * b + 1 + x) v || mWy u.1 (11 * b + 1 + x) v) = true := (bI_ne0 _).mp c_18
    refine lv_iconst (v := nI 0) hx hb dX1_expectVote_25 (by decide) ?_
    refine lv_istore_n (lv' := [(3, .int (nI 0)), (0, .ref (gL G (11 + 5 * v))), (1, .int (nI x)), (2, .int (nI b))]) hx hb dX1_expectVote_26 rfl hl (by decide) rfl (fun ls hl => ?_)
    refine lv_iload_n hx hb dX1_expectVote_27 rfl (lv_at hl 0 rfl) ?_
    refine lv_if_eq (tgt := 43) hx hb dX1_expectVote_28 (by decide) (fun c_28 => ?_) (fun c_28 => ?_)
    · refine lv_iload_n hx hb dX1_expectVote_43 rfl (lv_at hl 0 rfl) ?_
      exact k_retz X hr hlocks hP hS dX1_expectVote_44 rfl ⟨by rw [show newL u.1 (11 * b + 1 + x) v = false from by simp only [newL, c_18]; rfl]; rfl, by rw [mExp, if_neg (show ¬ newL u.1 (11 * b + 1 + x) v = true from by simp only [newL, c_18]; decide)]⟩
    · exact absurd rfl c_28
  · have c_18 : (mHs u.1 (11 * b + 1 + x) v || mWy u.1 (11 * b + 1 + x) v) = false := (bI_eq0 _).mp c_18
    refine lv_iconst (v := nI 1) hx hb dX1_expectVote_21 (by decide) ?_
    refine lv_goto (tgt := 26) hx hb dX1_expectVote_22 (by decide) ?_
    refine lv_istore_n (lv' := [(3, .int (nI 1)), (0, .ref (gL G (11 + 5 * v))), (1, .int (nI x)), (2, .int (nI b))]) hx hb dX1_expectVote_26 rfl hl (by decide) rfl (fun ls hl => ?_)
    refine lv_iload_n hx hb dX1_expectVote_27 rfl (lv_at hl 0 rfl) ?_
    refine lv_if_eq (tgt := 43) hx hb dX1_expectVote_28 (by decide) (fun c_28 => ?_) (fun c_28 => ?_)
    · exact absurd c_28 (by decide)
    · refine lv_aload_n hx hb dX1_expectVote_31 rfl (lv_at hl 1 rfl) ?_
      refine k_get (v := .ref (gL G (13 + 5 * v))) X hK inX1 rfl hP (wC_n0 G u hv) 8 (by decide) tw_1_91 rfl dX1_expectVote_32 ?_
      refine lv_iload_n hx hb dX1_expectVote_35 rfl (lv_at hl 3 rfl) ?_
      refine lv_dup2_11 hx hb dX1_expectVote_36 rfl rfl ?_
      refine k_ild (v := eI (vB (mWy u.1) b v)) X hK hP (wC_n2 G u hv) (by omega) (by decide) rfl dX1_expectVote_37 ?_
      refine lv_iconst (v := nI 1) hx hb dX1_expectVote_38 (by decide) ?_
      refine lv_iload_n hx hb dX1_expectVote_39 rfl (lv_at hl 2 rfl) ?_
      refine lv_ishl hx hb dX1_expectVote_40 ?_
      refine k_ti (show nI 1 <<< (nI x &&& 31) = (1 : Int32) <<< (nI x &&& 31) from rfl) ?_
      refine lv_ior hx hb dX1_expectVote_41 ?_
      refine k_ti (eI_or (vB (mWy u.1) b v) (by omega)) ?_
      refine k_ist (x := eI (va_up (vB (mWy u.1) b v) x true)) X hK hP (wC_D hL _) hS (wC_n2 G u hv) (by omega) (by decide) ((sWy u.1 (up2 (mWy u.1) (11 * b + 1 + x) v true), u.2)) (cn_vw G u hv (b := b) (x := x) (by omega) true) dX1_expectVote_42 (fun H locs hP hS => ?_)
      refine lv_iload_n hx hb dX1_expectVote_43 rfl (lv_at hl 0 rfl) ?_
      exact k_retz X hr hlocks hP hS dX1_expectVote_44 rfl ⟨by rw [show newL u.1 (11 * b + 1 + x) v = true from by simp only [newL, c_18]; rfl]; rfl, by rw [mExp, if_pos (show newL u.1 (11 * b + 1 + x) v = true from by simp only [newL, c_18]; rfl)]⟩

set_option maxHeartbeats 4000000 in
set_option maxRecDepth 100000 in
theorem m1_raiseTip (l : Launch) (G : kG) (u : CS) (hL : lay G) (hk : okC G u) {v : Nat} (hv : v < gn G) {b : Nat} (hbb : b ≤ 60) : KMv l G (AC G) (wC G) yX1_raiseTip cX1_raiseTip 4 (Option.none : Option FieldType) ({ frames := 0, cells := 0, slots := 0, locals := 0 }) [.ref (gL G (11 + 5 * v)), .int (nI b)] u (fun u' => u' = (u.1, cTip u.1 u.2 v b)) := by
  refine K_of (by decide) (Nat.le_of_ble_eq_true rfl) ?_
  intro p e s m below meth c X hr hlocks hnm hK hP ls hl
  have hx := X.1
  have hb := X.2.1
  have hown := X.2.2.2.1
  have hts := X.2.2.2.2
  have hS : va_S (AC G) s.heap s.heap [] := va_S.rf
  have hl : lv_has ls 4 [(0, .ref (gL G (11 + 5 * v))), (1, .int (nI b))] := hl
  obtain ⟨kn4, kn10, kT1, kT61, kP40, kLd, kPar, kEp, kHt, kFc, kVf, kTp, kHf⟩ := id hk
  have hT := kTp v
  have hHb := kHt b
  have hHt := kHt (xTp u.2 v)
  have hEb := kEp b
  have hEt := kEp (xTp u.2 v)
  refine lv_aload_n hx hb dX1_raiseTip_0 rfl (lv_at hl 0 rfl) ?_
  refine k_get (v := .ref (gL G 3)) X hK inX1 rfl hP (wC_n0 G u hv) 2 (by decide) tw_1_82 rfl dX1_raiseTip_1 ?_
  refine k_gn (v := .ref (gL G 7)) X hK inX0 rfl hP (wC_g G u (k := 3) (by decide)) 3 (by decide) ntw_1_38 rfl dX1_raiseTip_4 ?_
  refine lv_iload_n hx hb dX1_raiseTip_7 rfl (lv_at hl 1 rfl) ?_
  refine k_ild (v := nI (mHt u.1 b)) X hK hP (wC_g G u (k := 7) (by decide)) (by omega) (by decide) rfl dX1_raiseTip_8 ?_
  refine lv_aload_n hx hb dX1_raiseTip_9 rfl (lv_at hl 0 rfl) ?_
  refine k_get (v := .ref (gL G 3)) X hK inX1 rfl hP (wC_n0 G u hv) 2 (by decide) tw_1_82 rfl dX1_raiseTip_10 ?_
  refine k_gn (v := .ref (gL G 7)) X hK inX0 rfl hP (wC_g G u (k := 3) (by decide)) 3 (by decide) ntw_1_38 rfl dX1_raiseTip_13 ?_
  refine lv_aload_n hx hb dX1_raiseTip_16 rfl (lv_at hl 0 rfl) ?_
  refine k_get (v := .int (nI ((xTp u.2) v))) X hK inX1 rfl hP (wC_n0 G u hv) 14 (by decide) tw_1_102 rfl dX1_raiseTip_17 ?_
  refine k_ild (v := nI (mHt u.1 ((xTp u.2) v))) X hK hP (wC_g G u (k := 7) (by decide)) (by omega) (by decide) rfl dX1_raiseTip_20 ?_
  refine lv_isub hx hb dX1_raiseTip_21 ?_
  refine lv_istore_n (lv' := [(2, .int ((nI (mHt u.1 b)) - (nI (mHt u.1 ((xTp u.2) v))))), (0, .ref (gL G (11 + 5 * v))), (1, .int (nI b))]) hx hb dX1_raiseTip_22 rfl hl (by decide) rfl (fun ls hl => ?_)
  refine lv_aload_n hx hb dX1_raiseTip_23 rfl (lv_at hl 1 rfl) ?_
  refine k_get (v := .ref (gL G 3)) X hK inX1 rfl hP (wC_n0 G u hv) 2 (by decide) tw_1_82 rfl dX1_raiseTip_24 ?_
  refine k_gn (v := .ref (gL G 5)) X hK inX0 rfl hP (wC_g G u (k := 3) (by decide)) 1 (by decide) ntw_1_33 rfl dX1_raiseTip_27 ?_
  refine lv_iload_n hx hb dX1_raiseTip_30 rfl (lv_at hl 2 rfl) ?_
  refine k_ild (v := nI (mEp u.1 b)) X hK hP (wC_g G u (k := 5) (by decide)) (by omega) (by decide) rfl dX1_raiseTip_31 ?_
  refine lv_aload_n hx hb dX1_raiseTip_32 rfl (lv_at hl 1 rfl) ?_
  refine k_get (v := .ref (gL G 3)) X hK inX1 rfl hP (wC_n0 G u hv) 2 (by decide) tw_1_82 rfl dX1_raiseTip_33 ?_
  refine k_gn (v := .ref (gL G 5)) X hK inX0 rfl hP (wC_g G u (k := 3) (by decide)) 1 (by decide) ntw_1_33 rfl dX1_raiseTip_36 ?_
  refine lv_aload_n hx hb dX1_raiseTip_39 rfl (lv_at hl 1 rfl) ?_
  refine k_get (v := .int (nI ((xTp u.2) v))) X hK inX1 rfl hP (wC_n0 G u hv) 14 (by decide) tw_1_102 rfl dX1_raiseTip_40 ?_
  refine k_ild (v := nI (mEp u.1 ((xTp u.2) v))) X hK hP (wC_g G u (k := 5) (by decide)) (by omega) (by decide) rfl dX1_raiseTip_43 ?_
  refine lv_isub hx hb dX1_raiseTip_44 ?_
  refine lv_istore_n (lv' := [(3, .int ((nI (mEp u.1 b)) - (nI (mEp u.1 ((xTp u.2) v))))), (2, .int ((nI (mHt u.1 b)) - (nI (mHt u.1 ((xTp u.2) v))))), (0, .ref (gL G (11 + 5 * v))), (1, .int (nI b))]) hx hb dX1_raiseTip_45 rfl hl (by decide) rfl (fun ls hl => ?_)
  refine lv_iload_n hx hb dX1_raiseTip_46 rfl (lv_at hl 1 rfl) ?_
  refine lv_if_gt (tgt := 70) hx hb dX1_raiseTip_47 (by decide) (fun c_47 => ?_) (fun c_47 => ?_)
  · have c_47 : (mHt u.1 ((xTp u.2) v)) < (mHt u.1 b) := (sb_gt (by omega) (by omega)).mp c_47
    refine lv_aload_n hx hb dX1_raiseTip_70 rfl (lv_at hl 2 rfl) ?_
    refine lv_iload_n hx hb dX1_raiseTip_71 rfl (lv_at hl 3 rfl) ?_
    refine k_put (v := .int (nI b)) X hK inX1 rfl tyX1_ok nmX1 hP (wC_D hL _) hS (wC_n0 G u hv) 14 (by decide) tw_1_102 rfl rfl rfl (Nat.le_of_ble_eq_true rfl) ((u.1, tTp u.2 (va_up (xTp u.2) v (b)))) (cn_Tp G u hv (b)) dX1_raiseTip_72 (fun H locs hP hS => ?_)
    exact k_retv X hr hlocks hP hS dX1_raiseTip_75 (by rw [cTip, if_pos ((better_iff _ _ _).mpr (by omega))])
  · have c_47 : (mHt u.1 b) ≤ (mHt u.1 ((xTp u.2) v)) := Nat.le_of_not_lt fun h => c_47 ((sb_gt (by omega) (by omega)).mpr h)
    refine lv_iload_n hx hb dX1_raiseTip_50 rfl (lv_at hl 1 rfl) ?_
    refine lv_if_ne (tgt := 75) hx hb dX1_raiseTip_51 (by decide) (fun c_51 => ?_) (fun c_51 => ?_)
    · have c_51 : (mHt u.1 b) ≠ (mHt u.1 ((xTp u.2) v)) := fun h => c_51 ((sb_eq (by omega) (by omega)).mpr h)
      exact k_retv X hr hlocks hP hS dX1_raiseTip_75 (by rw [cTip, if_neg (fun h => absurd ((better_iff _ _ _).mp h) (by omega))])
    · have c_51 : (mHt u.1 b) = (mHt u.1 ((xTp u.2) v)) := (sb_eq (by omega) (by omega)).mp c_51
      refine lv_iload_n hx hb dX1_raiseTip_54 rfl (lv_at hl 0 rfl) ?_
      refine lv_if_gt (tgt := 70) hx hb dX1_raiseTip_55 (by decide) (fun c_55 => ?_) (fun c_55 => ?_)
      · have c_55 : (mEp u.1 ((xTp u.2) v)) < (mEp u.1 b) := (sb_gt (by omega) (by omega)).mp c_55
        refine lv_aload_n hx hb dX1_raiseTip_70 rfl (lv_at hl 2 rfl) ?_
        refine lv_iload_n hx hb dX1_raiseTip_71 rfl (lv_at hl 3 rfl) ?_
        refine k_put (v := .int (nI b)) X hK inX1 rfl tyX1_ok nmX1 hP (wC_D hL _) hS (wC_n0 G u hv) 14 (by decide) tw_1_102 rfl rfl rfl (Nat.le_of_ble_eq_true rfl) ((u.1, tTp u.2 (va_up (xTp u.2) v (b)))) (cn_Tp G u hv (b)) dX1_raiseTip_72 (fun H locs hP hS => ?_)
        exact k_retv X hr hlocks hP hS dX1_raiseTip_75 (by rw [cTip, if_pos ((better_iff _ _ _).mpr (by omega))])
      · have c_55 : (mEp u.1 b) ≤ (mEp u.1 ((xTp u.2) v)) := Nat.le_of_not_lt fun h => c_55 ((sb_gt (by omega) (by omega)).mpr h)
        refine lv_iload_n hx hb dX1_raiseTip_58 rfl (lv_at hl 0 rfl) ?_
        refine lv_if_ne (tgt := 75) hx hb dX1_raiseTip_59 (by decide) (fun c_59 => ?_) (fun c_59 => ?_)
        · have c_59 : (mEp u.1 b) ≠ (mEp u.1 ((xTp u.2) v)) := fun h => c_59 ((sb_eq (by omega) (by omega)).mpr h)
          exact k_retv X hr hlocks hP hS dX1_raiseTip_75 (by rw [cTip, if_neg (fun h => absurd ((better_iff _ _ _).mp h) (by omega))])
        · have c_59 : (mEp u.1 b) = (mEp u.1 ((xTp u.2) v)) := (sb_eq (by omega) (by omega)).mp c_59
          refine lv_iload_n hx hb dX1_raiseTip_62 rfl (lv_at hl 3 rfl) ?_
          refine lv_aload_n hx hb dX1_raiseTip_63 rfl (lv_at hl 2 rfl) ?_
          refine k_get (v := .int (nI ((xTp u.2) v))) X hK inX1 rfl hP (wC_n0 G u hv) 14 (by decide) tw_1_102 rfl dX1_raiseTip_64 ?_
          refine lv_icmp_ge (tgt := 75) hx hb dX1_raiseTip_67 (by decide) (fun c_67 => ?_) (fun c_67 => ?_)
          · have c_67 : ((xTp u.2) v) ≤ b := cLe c_67 (by omega) (by omega)
            exact k_retv X hr hlocks hP hS dX1_raiseTip_75 (by rw [cTip, if_neg (fun h => absurd ((better_iff _ _ _).mp h) (by omega))])
          · have c_67 : b < ((xTp u.2) v) := cNle c_67 (by omega) (by omega)
            refine lv_aload_n hx hb dX1_raiseTip_70 rfl (lv_at hl 2 rfl) ?_
            refine lv_iload_n hx hb dX1_raiseTip_71 rfl (lv_at hl 3 rfl) ?_
            refine k_put (v := .int (nI b)) X hK inX1 rfl tyX1_ok nmX1 hP (wC_D hL _) hS (wC_n0 G u hv) 14 (by decide) tw_1_102 rfl rfl rfl (Nat.le_of_ble_eq_true rfl) ((u.1, tTp u.2 (va_up (xTp u.2) v (b)))) (cn_Tp G u hv (b)) dX1_raiseTip_72 (fun H locs hP hS => ?_)
            exact k_retv X hr hlocks hP hS dX1_raiseTip_75 (by rw [cTip, if_pos ((better_iff _ _ _).mpr (by omega))])

set_option maxHeartbeats 4000000 in
set_option maxRecDepth 100000 in
theorem m1_makeFinalBelow (l : Launch) (G : kG) (u : CS) (hL : lay G) (hk : okC G u) {v : Nat} (hv : v < gn G) {c0 q : Nat} (hc0 : c0 ≤ 60) (hq : q ≤ 60) : KMv l G (AC G) (wC G) yX1_makeFinalBelow cX1_makeFinalBelow 5 (Option.none : Option FieldType) ({ frames := 0, cells := 0, slots := 0, locals := 0 }) [.ref (gL G (11 + 5 * v)), .int (nI c0), .int (nI q)] u (fun u' => u' = (u.1, cFin u.1 u.2 v c0 q)) := by
  refine K_of (by decide) (Nat.le_of_ble_eq_true rfl) ?_
  intro p e s m below meth c X hr hlocks hnm hK hP ls hl
  have hx := X.1
  have hb := X.2.1
  have hown := X.2.2.2.1
  have hts := X.2.2.2.2
  have hS : va_S (AC G) s.heap s.heap [] := va_S.rf
  have hl : lv_has ls 5 [(0, .ref (gL G (11 + 5 * v))), (1, .int (nI c0)), (2, .int (nI q))] := hl
  obtain ⟨kn4, kn10, kT1, kT61, kP40, kLd, kPar, kEp, kHt, kFc, kVf, kTp, kHf⟩ := id hk
  have hF := kHf v
  have hHp := kHt q
  have hHh := kHt (xHf u.2 v)
  have hEc := kEp c0
  have hEp := kEp q
  refine lv_aload_n hx hb dX1_makeFinalBelow_0 rfl (lv_at hl 0 rfl) ?_
  refine k_get (v := .ref (gL G 3)) X hK inX1 rfl hP (wC_n0 G u hv) 2 (by decide) tw_1_82 rfl dX1_makeFinalBelow_1 ?_
  refine k_gn (v := .ref (gL G 4)) X hK inX0 rfl hP (wC_g G u (k := 3) (by decide)) 0 (by decide) ntw_1_30 rfl dX1_makeFinalBelow_4 ?_
  refine lv_iload_n hx hb dX1_makeFinalBelow_7 rfl (lv_at hl 2 rfl) ?_
  refine k_ild (v := eP (mPar u.1) q) X hK hP (wC_g G u (k := 4) (by decide)) (by omega) (by decide) rfl dX1_makeFinalBelow_8 ?_
  rcases Nat.eq_zero_or_pos q with hq0 | hq0
  · refine k_ti (show eP (mPar u.1) q = -1 by rw [hq0]; rfl) ?_
    refine lv_istore_n (lv' := [(3, .int (-1)), (0, .ref (gL G (11 + 5 * v))), (1, .int (nI c0)), (2, .int (nI q))]) hx hb dX1_makeFinalBelow_9 rfl hl (by decide) rfl (fun ls hl => ?_)
    refine lv_iload_n hx hb dX1_makeFinalBelow_10 rfl (lv_at hl 0 rfl) ?_
    refine lv_iconst (v := -1) hx hb dX1_makeFinalBelow_11 (by decide) ?_
    refine lv_icmp_eq (tgt := 61) hx hb dX1_makeFinalBelow_12 (by decide) (fun c_12 => ?_) (fun c_12 => ?_)
    · exact k_retv X hr hlocks hP hS dX1_makeFinalBelow_61 (by rw [cFin, if_neg (fun h => absurd ((isThree_iff _ _ _).mp h) (by omega))])
    · exact absurd rfl c_12
  · refine k_ti (eP_pos hq0) ?_
    refine lv_istore_n (lv' := [(3, .int (nI (mPar u.1 q))), (0, .ref (gL G (11 + 5 * v))), (1, .int (nI c0)), (2, .int (nI q))]) hx hb dX1_makeFinalBelow_9 rfl hl (by decide) rfl (fun ls hl => ?_)
    refine lv_iload_n hx hb dX1_makeFinalBelow_10 rfl (lv_at hl 0 rfl) ?_
    refine lv_iconst (v := -1) hx hb dX1_makeFinalBelow_11 (by decide) ?_
    have hPq := kPar q hq0
    have hEg := kEp (mPar u.1 q)
    refine lv_icmp_eq (tgt := 61) hx hb dX1_makeFinalBelow_12 (by decide) (fun c_12 => ?_) (fun c_12 => ?_)
    · exact absurd c_12 (m1_ne (by omega))
    · have hPq := kPar q hq0
      have hEg := kEp (mPar u.1 q)
      refine lv_aload_n hx hb dX1_makeFinalBelow_15 rfl (lv_at hl 1 rfl) ?_
      refine k_get (v := .ref (gL G 3)) X hK inX1 rfl hP (wC_n0 G u hv) 2 (by decide) tw_1_82 rfl dX1_makeFinalBelow_16 ?_
      refine k_gn (v := .ref (gL G 5)) X hK inX0 rfl hP (wC_g G u (k := 3) (by decide)) 1 (by decide) ntw_1_33 rfl dX1_makeFinalBelow_19 ?_
      refine lv_iload_n hx hb dX1_makeFinalBelow_22 rfl (lv_at hl 3 rfl) ?_
      refine k_ild (v := nI (mEp u.1 q)) X hK hP (wC_g G u (k := 5) (by decide)) (by omega) (by decide) rfl dX1_makeFinalBelow_23 ?_
      refine lv_aload_n hx hb dX1_makeFinalBelow_24 rfl (lv_at hl 1 rfl) ?_
      refine k_get (v := .ref (gL G 3)) X hK inX1 rfl hP (wC_n0 G u hv) 2 (by decide) tw_1_82 rfl dX1_makeFinalBelow_25 ?_
      refine k_gn (v := .ref (gL G 5)) X hK inX0 rfl hP (wC_g G u (k := 3) (by decide)) 1 (by decide) ntw_1_33 rfl dX1_makeFinalBelow_28 ?_
      refine lv_iload_n hx hb dX1_makeFinalBelow_31 rfl (lv_at hl 0 rfl) ?_
      refine k_ild (v := nI (mEp u.1 (mPar u.1 q))) X hK hP (wC_g G u (k := 5) (by decide)) (by omega) (by decide) rfl dX1_makeFinalBelow_32 ?_
      refine lv_iconst (v := nI 1) hx hb dX1_makeFinalBelow_33 (by decide) ?_
      refine lv_iadd hx hb dX1_makeFinalBelow_34 ?_
      refine k_ti (nI_add (mEp u.1 (mPar u.1 q)) 1) ?_
      refine lv_icmp_ne (tgt := 61) hx hb dX1_makeFinalBelow_35 (by decide) (fun c_35 => ?_) (fun c_35 => ?_)
      · have c_35 : (mEp u.1 q) ≠ ((mEp u.1 (mPar u.1 q)) + 1) := cNe c_35 (by omega) (by omega)
        exact k_retv X hr hlocks hP hS dX1_makeFinalBelow_61 (by rw [cFin, if_neg (fun h => absurd ((isThree_iff _ _ _).mp h) (by omega))])
      · have c_35 : (mEp u.1 q) = ((mEp u.1 (mPar u.1 q)) + 1) := cEq c_35 (by omega) (by omega)
        refine lv_aload_n hx hb dX1_makeFinalBelow_38 rfl (lv_at hl 1 rfl) ?_
        refine k_get (v := .ref (gL G 3)) X hK inX1 rfl hP (wC_n0 G u hv) 2 (by decide) tw_1_82 rfl dX1_makeFinalBelow_39 ?_
        refine k_gn (v := .ref (gL G 5)) X hK inX0 rfl hP (wC_g G u (k := 3) (by decide)) 1 (by decide) ntw_1_33 rfl dX1_makeFinalBelow_42 ?_
        refine lv_iload_n hx hb dX1_makeFinalBelow_45 rfl (lv_at hl 2 rfl) ?_
        refine k_ild (v := nI (mEp u.1 c0)) X hK hP (wC_g G u (k := 5) (by decide)) (by omega) (by decide) rfl dX1_makeFinalBelow_46 ?_
        refine lv_aload_n hx hb dX1_makeFinalBelow_47 rfl (lv_at hl 1 rfl) ?_
        refine k_get (v := .ref (gL G 3)) X hK inX1 rfl hP (wC_n0 G u hv) 2 (by decide) tw_1_82 rfl dX1_makeFinalBelow_48 ?_
        refine k_gn (v := .ref (gL G 5)) X hK inX0 rfl hP (wC_g G u (k := 3) (by decide)) 1 (by decide) ntw_1_33 rfl dX1_makeFinalBelow_51 ?_
        refine lv_iload_n hx hb dX1_makeFinalBelow_54 rfl (lv_at hl 3 rfl) ?_
        refine k_ild (v := nI (mEp u.1 q)) X hK hP (wC_g G u (k := 5) (by decide)) (by omega) (by decide) rfl dX1_makeFinalBelow_55 ?_
        refine lv_iconst (v := nI 1) hx hb dX1_makeFinalBelow_56 (by decide) ?_
        refine lv_iadd hx hb dX1_makeFinalBelow_57 ?_
        refine k_ti (nI_add (mEp u.1 q) 1) ?_
        refine lv_icmp_eq (tgt := 62) hx hb dX1_makeFinalBelow_58 (by decide) (fun c_58 => ?_) (fun c_58 => ?_)
        · have c_58 : (mEp u.1 c0) = ((mEp u.1 q) + 1) := cEq c_58 (by omega) (by omega)
          refine lv_aload_n hx hb dX1_makeFinalBelow_62 rfl (lv_at hl 1 rfl) ?_
          refine lv_dup hx hb dX1_makeFinalBelow_63 rfl ?_
          refine k_get (v := .long (eL ((xFi u.2) v))) X hK inX1 rfl hP (wC_n0 G u hv) 13 (by decide) tw_1_100 rfl dX1_makeFinalBelow_64 ?_
          refine lv_aload_n hx hb dX1_makeFinalBelow_67 rfl (lv_at hl 1 rfl) ?_
          refine k_get (v := .ref (gL G 3)) X hK inX1 rfl hP (wC_n0 G u hv) 2 (by decide) tw_1_82 rfl dX1_makeFinalBelow_68 ?_
          refine k_gn (v := .ref (gL G 9)) X hK inX0 rfl hP (wC_g G u (k := 3) (by decide)) 5 (by decide) ntw_1_43 rfl dX1_makeFinalBelow_71 ?_
          refine lv_iload_n hx hb dX1_makeFinalBelow_74 rfl (lv_at hl 3 rfl) ?_
          refine k_lld (v := eL (xCh u.2 q)) X hK hP (wC_g G u (k := 9) (by decide)) (by omega) (by decide) rfl dX1_makeFinalBelow_75 ?_
          refine lv_lor hx hb dX1_makeFinalBelow_76 ?_
          refine k_tl (eL_lor (((xFi u.2) v)) (xCh u.2 q)) ?_
          refine k_put (v := .long (eL (fun k => (((xFi u.2) v)) k || (xCh u.2 q) k))) X hK inX1 rfl tyX1_ok nmX1 hP (wC_D hL _) hS (wC_n0 G u hv) 13 (by decide) tw_1_100 rfl rfl rfl (Nat.le_of_ble_eq_true rfl) ((u.1, tFi u.2 (va_up (xFi u.2) v (fun k => (((xFi u.2) v)) k || (xCh u.2 q) k)))) (cn_Fi G u hv (fun k => (((xFi u.2) v)) k || (xCh u.2 q) k)) dX1_makeFinalBelow_77 (fun H locs hP hS => ?_)
          refine lv_aload_n hx hb dX1_makeFinalBelow_80 rfl (lv_at hl 1 rfl) ?_
          refine k_get (v := .ref (gL G 3)) X hK inX1 rfl hP (wC_n0 G ((u.1, tFi u.2 (va_up (xFi u.2) v (fun k => (((xFi u.2) v)) k || (xCh u.2 q) k)))) hv) 2 (by decide) tw_1_82 rfl dX1_makeFinalBelow_81 ?_
          refine k_gn (v := .ref (gL G 7)) X hK inX0 rfl hP (wC_g G ((u.1, tFi u.2 (va_up (xFi u.2) v (fun k => (((xFi u.2) v)) k || (xCh u.2 q) k)))) (k := 3) (by decide)) 3 (by decide) ntw_1_38 rfl dX1_makeFinalBelow_84 ?_
          refine lv_iload_n hx hb dX1_makeFinalBelow_87 rfl (lv_at hl 3 rfl) ?_
          refine k_ild (v := nI (mHt u.1 q)) X hK hP (wC_g G ((u.1, tFi u.2 (va_up (xFi u.2) v (fun k => (((xFi u.2) v)) k || (xCh u.2 q) k)))) (k := 7) (by decide)) (by omega) (by decide) rfl dX1_makeFinalBelow_88 ?_
          refine lv_aload_n hx hb dX1_makeFinalBelow_89 rfl (lv_at hl 1 rfl) ?_
          refine k_get (v := .ref (gL G 3)) X hK inX1 rfl hP (wC_n0 G ((u.1, tFi u.2 (va_up (xFi u.2) v (fun k => (((xFi u.2) v)) k || (xCh u.2 q) k)))) hv) 2 (by decide) tw_1_82 rfl dX1_makeFinalBelow_90 ?_
          refine k_gn (v := .ref (gL G 7)) X hK inX0 rfl hP (wC_g G ((u.1, tFi u.2 (va_up (xFi u.2) v (fun k => (((xFi u.2) v)) k || (xCh u.2 q) k)))) (k := 3) (by decide)) 3 (by decide) ntw_1_38 rfl dX1_makeFinalBelow_93 ?_
          refine lv_aload_n hx hb dX1_makeFinalBelow_96 rfl (lv_at hl 1 rfl) ?_
          refine k_get (v := .int (nI ((xHf u.2) v))) X hK inX1 rfl hP (wC_n0 G ((u.1, tFi u.2 (va_up (xFi u.2) v (fun k => (((xFi u.2) v)) k || (xCh u.2 q) k)))) hv) 15 (by decide) tw_1_104 rfl dX1_makeFinalBelow_97 ?_
          refine k_ild (v := nI (mHt u.1 ((xHf u.2) v))) X hK hP (wC_g G ((u.1, tFi u.2 (va_up (xFi u.2) v (fun k => (((xFi u.2) v)) k || (xCh u.2 q) k)))) (k := 7) (by decide)) (by omega) (by decide) rfl dX1_makeFinalBelow_100 ?_
          refine lv_isub hx hb dX1_makeFinalBelow_101 ?_
          refine lv_istore (lv' := [(4, .int ((nI (mHt u.1 q)) - (nI (mHt u.1 ((xHf u.2) v))))), (3, .int (nI (mPar u.1 q))), (0, .ref (gL G (11 + 5 * v))), (1, .int (nI c0)), (2, .int (nI q))]) hx hb dX1_makeFinalBelow_102 hl (by decide) rfl (fun ls hl => ?_)
          refine lv_iload hx hb dX1_makeFinalBelow_104 (lv_at hl 0 rfl) ?_
          refine lv_if_gt (tgt := 122) hx hb dX1_makeFinalBelow_106 (by decide) (fun c_106 => ?_) (fun c_106 => ?_)
          · have c_106 : (mHt u.1 ((xHf u.2) v)) < (mHt u.1 q) := (sb_gt (by omega) (by omega)).mp c_106
            refine lv_aload_n hx hb dX1_makeFinalBelow_122 rfl (lv_at hl 2 rfl) ?_
            refine lv_iload_n hx hb dX1_makeFinalBelow_123 rfl (lv_at hl 4 rfl) ?_
            refine k_put (v := .int (nI q)) X hK inX1 rfl tyX1_ok nmX1 hP (wC_D hL _) hS (wC_n0 G ((u.1, tFi u.2 (va_up (xFi u.2) v (fun k => (((xFi u.2) v)) k || (xCh u.2 q) k)))) hv) 15 (by decide) tw_1_104 rfl rfl rfl (Nat.le_of_ble_eq_true rfl) ((u.1, tHf (tFi u.2 (va_up (xFi u.2) v (fun k => (((xFi u.2) v)) k || (xCh u.2 q) k))) (va_up (xHf u.2) v (q)))) (cn_Hf G ((u.1, tFi u.2 (va_up (xFi u.2) v (fun k => (((xFi u.2) v)) k || (xCh u.2 q) k)))) hv (q)) dX1_makeFinalBelow_124 (fun H locs hP hS => ?_)
            exact k_retv X hr hlocks hP hS dX1_makeFinalBelow_127 (by rw [cFin, if_pos ((isThree_iff _ _ _).mpr ⟨by omega, by omega, by omega⟩), if_pos ((betterF_iff _ _ _).mpr (by omega))]; rfl)
          · have c_106 : (mHt u.1 q) ≤ (mHt u.1 ((xHf u.2) v)) := Nat.le_of_not_lt fun h => c_106 ((sb_gt (by omega) (by omega)).mpr h)
            refine lv_iload hx hb dX1_makeFinalBelow_109 (lv_at hl 0 rfl) ?_
            refine lv_if_ne (tgt := 127) hx hb dX1_makeFinalBelow_111 (by decide) (fun c_111 => ?_) (fun c_111 => ?_)
            · have c_111 : (mHt u.1 q) ≠ (mHt u.1 ((xHf u.2) v)) := fun h => c_111 ((sb_eq (by omega) (by omega)).mpr h)
              exact k_retv X hr hlocks hP hS dX1_makeFinalBelow_127 (by rw [cFin, if_pos ((isThree_iff _ _ _).mpr ⟨by omega, by omega, by omega⟩), if_neg (fun h => absurd ((betterF_iff _ _ _).mp h) (by omega))]; rfl)
            · have c_111 : (mHt u.1 q) = (mHt u.1 ((xHf u.2) v)) := (sb_eq (by omega) (by omega)).mp c_111
              refine lv_iload_n hx hb dX1_makeFinalBelow_114 rfl (lv_at hl 4 rfl) ?_
              refine lv_aload_n hx hb dX1_makeFinalBelow_115 rfl (lv_at hl 2 rfl) ?_
              refine k_get (v := .int (nI ((xHf u.2) v))) X hK inX1 rfl hP (wC_n0 G ((u.1, tFi u.2 (va_up (xFi u.2) v (fun k => (((xFi u.2) v)) k || (xCh u.2 q) k)))) hv) 15 (by decide) tw_1_104 rfl dX1_makeFinalBelow_116 ?_
              refine lv_icmp_ge (tgt := 127) hx hb dX1_makeFinalBelow_119 (by decide) (fun c_119 => ?_) (fun c_119 => ?_)
              · have c_119 : ((xHf u.2) v) ≤ q := cLe c_119 (by omega) (by omega)
                exact k_retv X hr hlocks hP hS dX1_makeFinalBelow_127 (by rw [cFin, if_pos ((isThree_iff _ _ _).mpr ⟨by omega, by omega, by omega⟩), if_neg (fun h => absurd ((betterF_iff _ _ _).mp h) (by omega))]; rfl)
              · have c_119 : q < ((xHf u.2) v) := cNle c_119 (by omega) (by omega)
                refine lv_aload_n hx hb dX1_makeFinalBelow_122 rfl (lv_at hl 2 rfl) ?_
                refine lv_iload_n hx hb dX1_makeFinalBelow_123 rfl (lv_at hl 4 rfl) ?_
                refine k_put (v := .int (nI q)) X hK inX1 rfl tyX1_ok nmX1 hP (wC_D hL _) hS (wC_n0 G ((u.1, tFi u.2 (va_up (xFi u.2) v (fun k => (((xFi u.2) v)) k || (xCh u.2 q) k)))) hv) 15 (by decide) tw_1_104 rfl rfl rfl (Nat.le_of_ble_eq_true rfl) ((u.1, tHf (tFi u.2 (va_up (xFi u.2) v (fun k => (((xFi u.2) v)) k || (xCh u.2 q) k))) (va_up (xHf u.2) v (q)))) (cn_Hf G ((u.1, tFi u.2 (va_up (xFi u.2) v (fun k => (((xFi u.2) v)) k || (xCh u.2 q) k)))) hv (q)) dX1_makeFinalBelow_124 (fun H locs hP hS => ?_)
                exact k_retv X hr hlocks hP hS dX1_makeFinalBelow_127 (by rw [cFin, if_pos ((isThree_iff _ _ _).mpr ⟨by omega, by omega, by omega⟩), if_pos ((betterF_iff _ _ _).mpr (by omega))]; rfl)
        · have c_58 : (mEp u.1 c0) ≠ ((mEp u.1 q) + 1) := cNe c_58 (by omega) (by omega)
          exact k_retv X hr hlocks hP hS dX1_makeFinalBelow_61 (by rw [cFin, if_neg (fun h => absurd ((isThree_iff _ _ _).mp h) (by omega))])

set_option maxHeartbeats 4000000 in
set_option maxRecDepth 100000 in
theorem m1_choice (l : Launch) (G : kG) (u : CS) (hL : lay G) (hk : okC G u) {v : Nat} (hv : v < gn G) {q : Nat} (hq : q ≤ 40) : KMi l G (AC G) (wC G) yX1_choice cX1_choice 4 (Option.some FieldType.int) ({ frames := 1, cells := 0, slots := 0, locals := 22 }) [.ref (gL G (11 + 5 * v)), .int (nI q)] u (fun r u' => r = oI (cChoice u.1 u.2 v q) ∧ u' = u) := by
  refine K_of (by decide) (Nat.le_of_ble_eq_true rfl) ?_
  intro p e s m below meth c X hr hlocks hnm hK hP ls hl
  have hx := X.1
  have hb := X.2.1
  have hown := X.2.2.2.1
  have hts := X.2.2.2.2
  have hS : va_S (AC G) s.heap s.heap [] := va_S.rf
  have hl : lv_has ls 4 [(0, .ref (gL G (11 + 5 * v))), (1, .int (nI q))] := hl
  obtain ⟨kn4, kn10, kT1, kT61, kP40, kLd, kPar, kEp, kHt, kFc, kVf, kTp, kHf⟩ := id hk
  have hFb := kFc v q
  have hVb := kVf v q
  have hTb := kTp v
  have hHt2 := kHt (xTp u.2 v)
  refine lv_aload_n hx hb dX1_choice_0 rfl (lv_at hl 0 rfl) ?_
  refine k_get (v := .ref (gL G (14 + 5 * v))) X hK inX1 rfl hP (wC_n0 G u hv) 9 (by decide) tw_1_93 rfl dX1_choice_1 ?_
  refine lv_iload_n hx hb dX1_choice_4 rfl (lv_at hl 1 rfl) ?_
  refine k_ild (v := oI (mFc u.1 v q)) X hK hP (wC_n3 G u hv) (by omega) (by decide) rfl dX1_choice_5 ?_
  rcases Nat.eq_zero_or_pos (mFc u.1 v q) with hFz | hFz
  · refine k_ti (show oI (mFc u.1 v q) = -1 by rw [hFz]; rfl) ?_
    refine lv_istore_n (lv' := [(2, .int (-1)), (0, .ref (gL G (11 + 5 * v))), (1, .int (nI q))]) hx hb dX1_choice_6 rfl hl (by decide) rfl (fun ls hl => ?_)
    refine lv_iload_n hx hb dX1_choice_7 rfl (lv_at hl 0 rfl) ?_
    refine lv_iconst (v := -1) hx hb dX1_choice_8 (by decide) ?_
    refine lv_icmp_eq (tgt := 33) hx hb dX1_choice_9 (by decide) (fun c_9 => ?_) (fun c_9 => ?_)
    · refine lv_iconst (v := -1) hx hb dX1_choice_33 (by decide) ?_
      exact k_reti X hr hlocks hP hS dX1_choice_34 ⟨by rw [show cChoice u.1 u.2 v q = 0 from by rw [cChoice, if_neg (fun h => by simp only [Bool.and_eq_true, decide_eq_true_eq] at h; first | (exact absurd hFz h.1) | (exact absurd h.2.1 (by omega)) | (rw [h.2.2.1] at c_30; exact absurd c_30 (by decide)))]]; rfl, rfl⟩
    · exact absurd rfl c_9
  · refine k_ti (oI_pos hFz).symm ?_
    refine lv_istore_n (lv' := [(2, .int (nI (mFc u.1 v q))), (0, .ref (gL G (11 + 5 * v))), (1, .int (nI q))]) hx hb dX1_choice_6 rfl hl (by decide) rfl (fun ls hl => ?_)
    refine lv_iload_n hx hb dX1_choice_7 rfl (lv_at hl 0 rfl) ?_
    refine lv_iconst (v := -1) hx hb dX1_choice_8 (by decide) ?_
    refine lv_icmp_eq (tgt := 33) hx hb dX1_choice_9 (by decide) (fun c_9 => ?_) (fun c_9 => ?_)
    · exact absurd c_9 (m1_ne (by omega))
    · refine lv_aload_n hx hb dX1_choice_12 rfl (lv_at hl 1 rfl) ?_
      refine k_get (v := .ref (gL G (15 + 5 * v))) X hK inX1 rfl hP (wC_n0 G u hv) 10 (by decide) tw_1_94 rfl dX1_choice_13 ?_
      refine lv_iload_n hx hb dX1_choice_16 rfl (lv_at hl 2 rfl) ?_
      refine k_ild (v := oI (mVf u.1 v q)) X hK hP (wC_n4 G u hv) (by omega) (by decide) rfl dX1_choice_17 ?_
      rcases Nat.eq_zero_or_pos (mVf u.1 v q) with hVz | hVz
      · refine k_ti (show oI (mVf u.1 v q) = -1 by rw [hVz]; rfl) ?_
        refine lv_iconst (v := -1) hx hb dX1_choice_18 (by decide) ?_
        refine lv_icmp_ne (tgt := 33) hx hb dX1_choice_19 (by decide) (fun c_19 => ?_) (fun c_19 => ?_)
        · exact absurd rfl c_19
        · refine lv_aload_n hx hb dX1_choice_22 rfl (lv_at hl 1 rfl) ?_
          refine k_get (v := .long (eL ((xKn u.2) v))) X hK inX1 rfl hP (wC_n0 G u hv) 11 (by decide) tw_1_96 rfl dX1_choice_23 ?_
          refine lv_iload_n hx hb dX1_choice_26 rfl (lv_at hl 0 rfl) ?_
          refine k_ci (k_runSN (As := [.long (eL ((xKn u.2) v)), .int (nI (mFc u.1 v q))]) (rest := []) X hK hP (m2_holds l G (AC G) (wC G) u (eL ((xKn u.2) v)) (k := mFc u.1 v q) (by omega)) ⟨rfl, rfl⟩ ntw_1_210 tw_1_211 tw_1_1 tw_1_212 ⟨by decide +kernel, by decide +kernel, (by decide +kernel : (parseMethodDescriptor yX2_holds.desc).map (fun d => d.parameters.length) = some 2)⟩ ⟨Nat.le_of_ble_eq_true rfl, Nat.le_of_ble_eq_true rfl⟩ hl.1 rfl (Nat.le_of_ble_eq_true rfl) ⟨Nat.zero_le _, Nat.zero_le _⟩ dX1_choice_27) hS (fun r_27 u_27 H locs hq_27 hP hS => ?_)
          have hP := k_su hq_27.2 hP
          refine k_ti (y := bI ((((xKn u.2) v)) (mFc u.1 v q))) (hq_27.1.trans (congrArg bI (tL_eL _ (by omega)))) ?_
          refine lv_if_ne (tgt := 35) hx hb dX1_choice_30 (by decide) (fun c_30 => ?_) (fun c_30 => ?_)
          · have c_30 : ((((xKn u.2) v)) (mFc u.1 v q)) = true := (bI_ne0 _).mp c_30
            refine lv_aload_n hx hb dX1_choice_35 rfl (lv_at hl 1 rfl) ?_
            refine k_get (v := .ref (gL G 3)) X hK inX1 rfl hP (wC_n0 G u hv) 2 (by decide) tw_1_82 rfl dX1_choice_36 ?_
            refine k_gn (v := .ref (gL G 4)) X hK inX0 rfl hP (wC_g G u (k := 3) (by decide)) 0 (by decide) ntw_1_30 rfl dX1_choice_39 ?_
            refine lv_iload_n hx hb dX1_choice_42 rfl (lv_at hl 0 rfl) ?_
            refine k_ild (v := eP (mPar u.1) (mFc u.1 v q)) X hK hP (wC_g G u (k := 4) (by decide)) (by omega) (by decide) rfl dX1_choice_43 ?_
            refine k_ti (eP_pos hFz) ?_
            have hPF := kPar _ hFz
            have hHp := kHt (mPar u.1 (mFc u.1 v q))
            refine lv_istore_n (lv' := [(3, .int (nI (mPar u.1 (mFc u.1 v q)))), (2, .int (nI (mFc u.1 v q))), (0, .ref (gL G (11 + 5 * v))), (1, .int (nI q))]) hx hb dX1_choice_44 rfl hl (by decide) rfl (fun ls hl => ?_)
            refine lv_iload_n hx hb dX1_choice_45 rfl (lv_at hl 0 rfl) ?_
            refine lv_iconst (v := -1) hx hb dX1_choice_46 (by decide) ?_
            refine lv_icmp_eq (tgt := 61) hx hb dX1_choice_47 (by decide) (fun c_47 => ?_) (fun c_47 => ?_)
            · exact absurd c_47 (m1_ne (by omega))
            · refine lv_aload_n hx hb dX1_choice_50 rfl (lv_at hl 2 rfl) ?_
              refine k_get (v := .long (eL ((xNo u.2) v))) X hK inX1 rfl hP (wC_n0 G u hv) 12 (by decide) tw_1_98 rfl dX1_choice_51 ?_
              refine lv_iload_n hx hb dX1_choice_54 rfl (lv_at hl 0 rfl) ?_
              refine k_ci (k_runSN (As := [.long (eL ((xNo u.2) v)), .int (nI (mPar u.1 (mFc u.1 v q)))]) (rest := []) X hK hP (m2_holds l G (AC G) (wC G) u (eL ((xNo u.2) v)) (k := mPar u.1 (mFc u.1 v q)) (by omega)) ⟨rfl, rfl⟩ ntw_1_210 tw_1_211 tw_1_1 tw_1_212 ⟨by decide +kernel, by decide +kernel, (by decide +kernel : (parseMethodDescriptor yX2_holds.desc).map (fun d => d.parameters.length) = some 2)⟩ ⟨Nat.le_of_ble_eq_true rfl, Nat.le_of_ble_eq_true rfl⟩ hl.1 rfl (Nat.le_of_ble_eq_true rfl) ⟨Nat.zero_le _, Nat.zero_le _⟩ dX1_choice_55) hS (fun r_55 u_55 H locs hq_55 hP hS => ?_)
              have hP := k_su hq_55.2 hP
              refine k_ti (y := bI ((((xNo u.2) v)) (mPar u.1 (mFc u.1 v q)))) (hq_55.1.trans (congrArg bI (tL_eL _ (by omega)))) ?_
              refine lv_if_ne (tgt := 63) hx hb dX1_choice_58 (by decide) (fun c_58 => ?_) (fun c_58 => ?_)
              · have c_58 : ((((xNo u.2) v)) (mPar u.1 (mFc u.1 v q))) = true := (bI_ne0 _).mp c_58
                refine lv_aload_n hx hb dX1_choice_63 rfl (lv_at hl 2 rfl) ?_
                refine k_get (v := .ref (gL G 3)) X hK inX1 rfl hP (wC_n0 G u hv) 2 (by decide) tw_1_82 rfl dX1_choice_64 ?_
                refine k_gn (v := .ref (gL G 7)) X hK inX0 rfl hP (wC_g G u (k := 3) (by decide)) 3 (by decide) ntw_1_38 rfl dX1_choice_67 ?_
                refine lv_iload_n hx hb dX1_choice_70 rfl (lv_at hl 0 rfl) ?_
                refine k_ild (v := nI (mHt u.1 (mPar u.1 (mFc u.1 v q)))) X hK hP (wC_g G u (k := 7) (by decide)) (by omega) (by decide) rfl dX1_choice_71 ?_
                refine lv_aload_n hx hb dX1_choice_72 rfl (lv_at hl 2 rfl) ?_
                refine k_get (v := .ref (gL G 3)) X hK inX1 rfl hP (wC_n0 G u hv) 2 (by decide) tw_1_82 rfl dX1_choice_73 ?_
                refine k_gn (v := .ref (gL G 7)) X hK inX0 rfl hP (wC_g G u (k := 3) (by decide)) 3 (by decide) ntw_1_38 rfl dX1_choice_76 ?_
                refine lv_aload_n hx hb dX1_choice_79 rfl (lv_at hl 2 rfl) ?_
                refine k_get (v := .int (nI ((xTp u.2) v))) X hK inX1 rfl hP (wC_n0 G u hv) 14 (by decide) tw_1_102 rfl dX1_choice_80 ?_
                refine k_ild (v := nI (mHt u.1 ((xTp u.2) v))) X hK hP (wC_g G u (k := 7) (by decide)) (by omega) (by decide) rfl dX1_choice_83 ?_
                refine lv_icmp_ne (tgt := 91) hx hb dX1_choice_84 (by decide) (fun c_84 => ?_) (fun c_84 => ?_)
                · have c_84 : (mHt u.1 (mPar u.1 (mFc u.1 v q))) ≠ (mHt u.1 ((xTp u.2) v)) := cNe c_84 (by omega) (by omega)
                  refine lv_iconst (v := -1) hx hb dX1_choice_91 (by decide) ?_
                  exact k_reti X hr hlocks hP hS dX1_choice_92 ⟨by rw [show cChoice u.1 u.2 v q = 0 from by rw [cChoice, if_neg (fun h => by simp only [Bool.and_eq_true, decide_eq_true_eq] at h; exact absurd h.2.2.2.2 (by omega))]]; rfl, rfl⟩
                · have c_84 : (mHt u.1 (mPar u.1 (mFc u.1 v q))) = (mHt u.1 ((xTp u.2) v)) := cEq c_84 (by omega) (by omega)
                  refine lv_iload_n hx hb dX1_choice_87 rfl (lv_at hl 1 rfl) ?_
                  refine lv_goto (tgt := 92) hx hb dX1_choice_88 (by decide) ?_
                  exact k_reti X hr hlocks hP hS dX1_choice_92 ⟨by rw [show cChoice u.1 u.2 v q = mFc u.1 v q from by rw [cChoice, if_pos (by simp only [Bool.and_eq_true, decide_eq_true_eq]; exact ⟨by omega, hVz, c_30, c_58, by omega⟩)]]; exact oI_pos hFz, rfl⟩
              · have c_58 : ((((xNo u.2) v)) (mPar u.1 (mFc u.1 v q))) = false := (bI_eq0 _).mp c_58
                refine lv_iconst (v := -1) hx hb dX1_choice_61 (by decide) ?_
                exact k_reti X hr hlocks hP hS dX1_choice_62 ⟨by rw [show cChoice u.1 u.2 v q = 0 from by rw [cChoice, if_neg (fun h => by simp only [Bool.and_eq_true, decide_eq_true_eq] at h; rw [h.2.2.2.1] at c_58; exact absurd c_58 (by decide))]]; rfl, rfl⟩
          · have c_30 : ((((xKn u.2) v)) (mFc u.1 v q)) = false := (bI_eq0 _).mp c_30
            refine lv_iconst (v := -1) hx hb dX1_choice_33 (by decide) ?_
            exact k_reti X hr hlocks hP hS dX1_choice_34 ⟨by rw [show cChoice u.1 u.2 v q = 0 from by rw [cChoice, if_neg (fun h => by simp only [Bool.and_eq_true, decide_eq_true_eq] at h; first | (exact absurd hFz h.1) | (exact absurd h.2.1 (by omega)) | (rw [h.2.2.1] at c_30; exact absurd c_30 (by decide)))]]; rfl, rfl⟩
      · refine k_ti (oI_pos hVz).symm ?_
        refine lv_iconst (v := -1) hx hb dX1_choice_18 (by decide) ?_
        refine lv_icmp_ne (tgt := 33) hx hb dX1_choice_19 (by decide) (fun c_19 => ?_) (fun c_19 => ?_)
        · refine lv_iconst (v := -1) hx hb dX1_choice_33 (by decide) ?_
          exact k_reti X hr hlocks hP hS dX1_choice_34 ⟨by rw [show cChoice u.1 u.2 v q = 0 from by rw [cChoice, if_neg (fun h => by simp only [Bool.and_eq_true, decide_eq_true_eq] at h; first | (exact absurd hFz h.1) | (exact absurd h.2.1 (by omega)) | (rw [h.2.2.1] at c_30; exact absurd c_30 (by decide)))]]; rfl, rfl⟩
        · exact absurd c_19 (m1_ne (by omega))
