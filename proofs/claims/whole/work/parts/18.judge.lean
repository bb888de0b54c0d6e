set_option maxHeartbeats 4000000 in
set_option maxRecDepth 100000 in
theorem mJ_bc32 (l : Launch) (G : kG) (A : Nat → Prop) {S : Type} (wd : S → va_W) (u : S) (x : Int32) : KMi l G A wd yJ6_bitCount_0f7a4 cJ6_bitCount_0f7a4 1 (Option.some FieldType.int) ({ frames := 0, cells := 0, slots := 0, locals := 0 }) [.int (x)] u (fun r u' => r = nI (cnt (tI x) 32) ∧ u' = u) := by
  refine K_of (by decide) (Nat.le_of_ble_eq_true rfl) ?_
  intro p e s m below meth c X hr hlocks hnm hK hP ls hl
  have hx := X.1
  have hb := X.2.1
  have hown := X.2.2.2.1
  have hts := X.2.2.2.2
  have hS : va_S A s.heap s.heap [] := va_S.rf
  have hl : lv_has ls 1 [(0, .int (x))] := hl
  refine lv_iload_n hx hb dJ6_bitCount_0f7a4_0 rfl (lv_at hl 0 rfl) ?_
  refine lv_iload_n hx hb dJ6_bitCount_0f7a4_1 rfl (lv_at hl 0 rfl) ?_
  refine lv_iconst (v := nI 1) hx hb dJ6_bitCount_0f7a4_2 (by decide) ?_
  refine lv_iushr (v := (x.toUInt32 >>> ((nI 1).toUInt32 &&& Int32.toUInt32 31)).toInt32) hx hb dJ6_bitCount_0f7a4_3 rfl ?_
  refine lv_ldcw (v := 1431655765) hx hb hown (hts _ tw_1_216) dJ6_bitCount_0f7a4_4 ?_
  refine lv_iand hx hb dJ6_bitCount_0f7a4_7 ?_
  refine lv_isub hx hb dJ6_bitCount_0f7a4_8 ?_
  refine k_ti (show _ = bc1 x from rfl) ?_
  refine lv_istore_n (lv' := [(0, .int (bc1 x))]) hx hb dJ6_bitCount_0f7a4_9 rfl hl (by decide) rfl (fun ls hl => ?_)
  refine lv_iload_n hx hb dJ6_bitCount_0f7a4_10 rfl (lv_at hl 0 rfl) ?_
  refine lv_ldcw (v := 858993459) hx hb hown (hts _ tw_1_217) dJ6_bitCount_0f7a4_11 ?_
  refine lv_iand hx hb dJ6_bitCount_0f7a4_14 ?_
  refine lv_iload_n hx hb dJ6_bitCount_0f7a4_15 rfl (lv_at hl 0 rfl) ?_
  refine lv_iconst (v := nI 2) hx hb dJ6_bitCount_0f7a4_16 (by decide) ?_
  refine lv_iushr (v := ((bc1 x).toUInt32 >>> ((nI 2).toUInt32 &&& Int32.toUInt32 31)).toInt32) hx hb dJ6_bitCount_0f7a4_17 rfl ?_
  refine lv_ldcw (v := 858993459) hx hb hown (hts _ tw_1_217) dJ6_bitCount_0f7a4_18 ?_
  refine lv_iand hx hb dJ6_bitCount_0f7a4_21 ?_
  refine lv_iadd hx hb dJ6_bitCount_0f7a4_22 ?_
  refine k_ti (show _ = bc2 (bc1 x) from rfl) ?_
  refine lv_istore_n (lv' := [(0, .int (bc2 (bc1 x)))]) hx hb dJ6_bitCount_0f7a4_23 rfl hl (by decide) rfl (fun ls hl => ?_)
  refine lv_iload_n hx hb dJ6_bitCount_0f7a4_24 rfl (lv_at hl 0 rfl) ?_
  refine lv_iload_n hx hb dJ6_bitCount_0f7a4_25 rfl (lv_at hl 0 rfl) ?_
  refine lv_iconst (v := nI 4) hx hb dJ6_bitCount_0f7a4_26 (by decide) ?_
  refine lv_iushr (v := ((bc2 (bc1 x)).toUInt32 >>> ((nI 4).toUInt32 &&& Int32.toUInt32 31)).toInt32) hx hb dJ6_bitCount_0f7a4_27 rfl ?_
  refine lv_iadd hx hb dJ6_bitCount_0f7a4_28 ?_
  refine lv_ldcw (v := 252645135) hx hb hown (hts _ tw_1_218) dJ6_bitCount_0f7a4_29 ?_
  refine lv_iand hx hb dJ6_bitCount_0f7a4_32 ?_
  refine k_ti (show _ = bc3 (bc2 (bc1 x)) from rfl) ?_
  refine lv_istore_n (lv' := [(0, .int (bc3 (bc2 (bc1 x))))]) hx hb dJ6_bitCount_0f7a4_33 rfl hl (by decide) rfl (fun ls hl => ?_)
  refine lv_iload_n hx hb dJ6_bitCount_0f7a4_34 rfl (lv_at hl 0 rfl) ?_
  refine lv_iload_n hx hb dJ6_bitCount_0f7a4_35 rfl (lv_at hl 0 rfl) ?_
  refine lv_bipush (v := nI 8) hx hb dJ6_bitCount_0f7a4_36 (by decide) ?_
  refine lv_iushr (v := ((bc3 (bc2 (bc1 x))).toUInt32 >>> ((nI 8).toUInt32 &&& Int32.toUInt32 31)).toInt32) hx hb dJ6_bitCount_0f7a4_38 rfl ?_
  refine lv_iadd hx hb dJ6_bitCount_0f7a4_39 ?_
  refine k_ti (show _ = bc4 (bc3 (bc2 (bc1 x))) from rfl) ?_
  refine lv_istore_n (lv' := [(0, .int (bc4 (bc3 (bc2 (bc1 x)))))]) hx hb dJ6_bitCount_0f7a4_40 rfl hl (by decide) rfl (fun ls hl => ?_)
  refine lv_iload_n hx hb dJ6_bitCount_0f7a4_41 rfl (lv_at hl 0 rfl) ?_
  refine lv_iload_n hx hb dJ6_bitCount_0f7a4_42 rfl (lv_at hl 0 rfl) ?_
  refine lv_bipush (v := nI 16) hx hb dJ6_bitCount_0f7a4_43 (by decide) ?_
  refine lv_iushr (v := ((bc4 (bc3 (bc2 (bc1 x)))).toUInt32 >>> ((nI 16).toUInt32 &&& Int32.toUInt32 31)).toInt32) hx hb dJ6_bitCount_0f7a4_45 rfl ?_
  refine lv_iadd hx hb dJ6_bitCount_0f7a4_46 ?_
  refine k_ti (show _ = bc5 (bc4 (bc3 (bc2 (bc1 x)))) from rfl) ?_
  refine lv_istore_n (lv' := [(0, .int (bc5 (bc4 (bc3 (bc2 (bc1 x))))))]) hx hb dJ6_bitCount_0f7a4_47 rfl hl (by decide) rfl (fun ls hl => ?_)
  refine lv_iload_n hx hb dJ6_bitCount_0f7a4_48 rfl (lv_at hl 0 rfl) ?_
  refine lv_bipush (v := nI 63) hx hb dJ6_bitCount_0f7a4_49 (by decide) ?_
  refine lv_iand hx hb dJ6_bitCount_0f7a4_51 ?_
  exact k_reti X hr hlocks hP hS dJ6_bitCount_0f7a4_52 ⟨bc32_eq x, rfl⟩

set_option maxHeartbeats 4000000 in
set_option maxRecDepth 100000 in
theorem mJ_bc64 (l : Launch) (G : kG) (A : Nat → Prop) {S : Type} (wd : S → va_W) (u : S) (x : Int64) : KMi l G A wd yJ13_bitCount_95d88 cJ13_bitCount_95d88 2 (Option.some FieldType.int) ({ frames := 0, cells := 0, slots := 0, locals := 0 }) [.long (x)] u (fun r u' => r = nI (cnt (tL x) 64) ∧ u' = u) := by
  refine K_of (by decide) (Nat.le_of_ble_eq_true rfl) ?_
  intro p e s m below meth c X hr hlocks hnm hK hP ls hl
  have hx := X.1
  have hb := X.2.1
  have hown := X.2.2.2.1
  have hts := X.2.2.2.2
  have hS : va_S A s.heap s.heap [] := va_S.rf
  have hl : lv_has ls 2 [(0, .long (x))] := hl
  refine lv_lload_n hx hb dJ13_bitCount_95d88_0 rfl (lv_at hl 0 rfl) ?_
  refine lv_lload_n hx hb dJ13_bitCount_95d88_1 rfl (lv_at hl 0 rfl) ?_
  refine lv_iconst (v := nI 1) hx hb dJ13_bitCount_95d88_2 (by decide) ?_
  refine lv_lushr (v := (x.toUInt64 >>> ((nI 1).toInt64.toUInt64 &&& Int64.toUInt64 63)).toInt64) hx hb dJ13_bitCount_95d88_3 rfl ?_
  refine lv_ldc2 (v := 6148914691236517205) hx hb hown (hts _ tw_2_63) dJ13_bitCount_95d88_4 ?_
  refine lv_land hx hb dJ13_bitCount_95d88_7 ?_
  refine lv_lsub hx hb dJ13_bitCount_95d88_8 ?_
  refine k_tl (show _ = lc1 x from rfl) ?_
  refine lv_lstore_n (lv' := [(0, .long (lc1 x))]) hx hb dJ13_bitCount_95d88_9 rfl hl (by decide) rfl (fun ls hl => ?_)
  refine lv_lload_n hx hb dJ13_bitCount_95d88_10 rfl (lv_at hl 0 rfl) ?_
  refine lv_ldc2 (v := 3689348814741910323) hx hb hown (hts _ tw_2_64) dJ13_bitCount_95d88_11 ?_
  refine lv_land hx hb dJ13_bitCount_95d88_14 ?_
  refine lv_lload_n hx hb dJ13_bitCount_95d88_15 rfl (lv_at hl 0 rfl) ?_
  refine lv_iconst (v := nI 2) hx hb dJ13_bitCount_95d88_16 (by decide) ?_
  refine lv_lushr (v := ((lc1 x).toUInt64 >>> ((nI 2).toInt64.toUInt64 &&& Int64.toUInt64 63)).toInt64) hx hb dJ13_bitCount_95d88_17 rfl ?_
  refine lv_ldc2 (v := 3689348814741910323) hx hb hown (hts _ tw_2_64) dJ13_bitCount_95d88_18 ?_
  refine lv_land hx hb dJ13_bitCount_95d88_21 ?_
  refine lv_ladd hx hb dJ13_bitCount_95d88_22 ?_
  refine k_tl (show _ = lc2 (lc1 x) from rfl) ?_
  refine lv_lstore_n (lv' := [(0, .long (lc2 (lc1 x)))]) hx hb dJ13_bitCount_95d88_23 rfl hl (by decide) rfl (fun ls hl => ?_)
  refine lv_lload_n hx hb dJ13_bitCount_95d88_24 rfl (lv_at hl 0 rfl) ?_
  refine lv_lload_n hx hb dJ13_bitCount_95d88_25 rfl (lv_at hl 0 rfl) ?_
  refine lv_iconst (v := nI 4) hx hb dJ13_bitCount_95d88_26 (by decide) ?_
  refine lv_lushr (v := ((lc2 (lc1 x)).toUInt64 >>> ((nI 4).toInt64.toUInt64 &&& Int64.toUInt64 63)).toInt64) hx hb dJ13_bitCount_95d88_27 rfl ?_
  refine lv_ladd hx hb dJ13_bitCount_95d88_28 ?_
  refine lv_ldc2 (v := 1085102592571150095) hx hb hown (hts _ tw_2_65) dJ13_bitCount_95d88_29 ?_
  refine lv_land hx hb dJ13_bitCount_95d88_32 ?_
  refine k_tl (show _ = lc3 (lc2 (lc1 x)) from rfl) ?_
  refine lv_lstore_n (lv' := [(0, .long (lc3 (lc2 (lc1 x))))]) hx hb dJ13_bitCount_95d88_33 rfl hl (by decide) rfl (fun ls hl => ?_)
  refine lv_lload_n hx hb dJ13_bitCount_95d88_34 rfl (lv_at hl 0 rfl) ?_
  refine lv_lload_n hx hb dJ13_bitCount_95d88_35 rfl (lv_at hl 0 rfl) ?_
  refine lv_bipush (v := nI 8) hx hb dJ13_bitCount_95d88_36 (by decide) ?_
  refine lv_lushr (v := ((lc3 (lc2 (lc1 x))).toUInt64 >>> ((nI 8).toInt64.toUInt64 &&& Int64.toUInt64 63)).toInt64) hx hb dJ13_bitCount_95d88_38 rfl ?_
  refine lv_ladd hx hb dJ13_bitCount_95d88_39 ?_
  refine k_tl (show _ = lc4 (lc3 (lc2 (lc1 x))) from rfl) ?_
  refine lv_lstore_n (lv' := [(0, .long (lc4 (lc3 (lc2 (lc1 x)))))]) hx hb dJ13_bitCount_95d88_40 rfl hl (by decide) rfl (fun ls hl => ?_)
  refine lv_lload_n hx hb dJ13_bitCount_95d88_41 rfl (lv_at hl 0 rfl) ?_
  refine lv_lload_n hx hb dJ13_bitCount_95d88_42 rfl (lv_at hl 0 rfl) ?_
  refine lv_bipush (v := nI 16) hx hb dJ13_bitCount_95d88_43 (by decide) ?_
  refine lv_lushr (v := ((lc4 (lc3 (lc2 (lc1 x)))).toUInt64 >>> ((nI 16).toInt64.toUInt64 &&& Int64.toUInt64 63)).toInt64) hx hb dJ13_bitCount_95d88_45 rfl ?_
  refine lv_ladd hx hb dJ13_bitCount_95d88_46 ?_
  refine k_tl (show _ = lc5 (lc4 (lc3 (lc2 (lc1 x)))) from rfl) ?_
  refine lv_lstore_n (lv' := [(0, .long (lc5 (lc4 (lc3 (lc2 (lc1 x))))))]) hx hb dJ13_bitCount_95d88_47 rfl hl (by decide) rfl (fun ls hl => ?_)
  refine lv_lload_n hx hb dJ13_bitCount_95d88_48 rfl (lv_at hl 0 rfl) ?_
  refine lv_lload_n hx hb dJ13_bitCount_95d88_49 rfl (lv_at hl 0 rfl) ?_
  refine lv_bipush (v := nI 32) hx hb dJ13_bitCount_95d88_50 (by decide) ?_
  refine lv_lushr (v := ((lc5 (lc4 (lc3 (lc2 (lc1 x))))).toUInt64 >>> ((nI 32).toInt64.toUInt64 &&& Int64.toUInt64 63)).toInt64) hx hb dJ13_bitCount_95d88_52 rfl ?_
  refine lv_ladd hx hb dJ13_bitCount_95d88_53 ?_
  refine k_tl (show _ = lc6 (lc5 (lc4 (lc3 (lc2 (lc1 x))))) from rfl) ?_
  refine lv_lstore_n (lv' := [(0, .long (lc6 (lc5 (lc4 (lc3 (lc2 (lc1 x)))))))]) hx hb dJ13_bitCount_95d88_54 rfl hl (by decide) rfl (fun ls hl => ?_)
  refine lv_lload_n hx hb dJ13_bitCount_95d88_55 rfl (lv_at hl 0 rfl) ?_
  refine lv_l2i (v := (lc6 (lc5 (lc4 (lc3 (lc2 (lc1 x)))))).toInt32) hx hb dJ13_bitCount_95d88_56 rfl ?_
  refine lv_bipush (v := nI 127) hx hb dJ13_bitCount_95d88_57 (by decide) ?_
  refine lv_iand hx hb dJ13_bitCount_95d88_59 ?_
  exact k_reti X hr hlocks hP hS dJ13_bitCount_95d88_60 ⟨bc64_eq x, rfl⟩

theorem cnt_vB (f : Nat → Nat → Bool) (b v : Nat) : cnt (tI (eI (vB f b v))) 32 = cnt (fun x => f (11 * b + 1 + x) v) 10 := by
  rw [show cnt (tI (eI (vB f b v))) 32 = cnt (vB f b v) 32 from cnt_congr fun j hj => tI_eI _ hj]
  rw [show (32 : Nat) = 10 + 22 from rfl, cnt_ext 22 (fun j h1 _ => by simp only [vB, decide_eq_false (Nat.not_lt.mpr h1), Bool.false_and])]
  exact cnt_congr fun j hj => by simp only [vB, decide_eq_true hj, Bool.true_and]

set_option maxHeartbeats 4000000 in
set_option maxRecDepth 100000 in
theorem m1_judgeFrom (l : Launch) (G : kG) (u : CS) (hL : lay G) (hk : okC G u) {v : Nat} (hv : v < gn G) {c0 : Nat} (hc0 : c0 ≤ mT u.1) : KMv l G (AC G) (wC G) yX1_judgeFrom cX1_judgeFrom 5 (Option.none : Option FieldType) ({ frames := 1, cells := 0, slots := 0, locals := 24 }) [.ref (gL G (11 + 5 * v)), .int (nI c0)] u (fun u' => u' = (u.1, judge (gn G) u.1 u.2 v c0)) := by
  refine K_of (by decide) (Nat.le_of_ble_eq_true rfl) ?_
  intro p e s m below meth c X hr hlocks hnm hK hP ls hl
  have hx := X.1
  have hb := X.2.1
  have hown := X.2.2.2.1
  have hts := X.2.2.2.2
  have hS : va_S (AC G) s.heap s.heap [] := va_S.rf
  have hl : lv_has ls 5 [(0, .ref (gL G (11 + 5 * v))), (1, .int (nI c0))] := hl
  obtain ⟨kn4, kn10, kT1, kT61, kP40, kLd, kPar, kEp, kHt, kFc, kVf, kTp, kHf⟩ := id hk
  refine lv_iload_n hx hb dX1_judgeFrom_0 rfl (lv_at hl 1 rfl) ?_
  refine lv_istore_n (lv' := [(2, .int (nI c0)), (0, .ref (gL G (11 + 5 * v))), (1, .int (nI c0))]) hx hb dX1_judgeFrom_1 rfl hl (by decide) rfl (fun ls hl => ?_)
  have loop_2 : ∀ (d_2 : Nat) (i : Nat) (X1 : XS), mT u.1 - i = d_2 → (c0 ≤ i) → (i ≤ mT u.1) → (X1 = jFold (gn G) u.1 v u.2 c0 (i - c0)) → (∀ v, xTp X1 v < mT u.1) → (∀ v, xHf X1 v < mT u.1) → ∀ (H : Heap) (locs : List Loc) (ls : Array Slot), va_P (gD G) vwCl ((wC G) ((u.1, X1))) H → va_S (AC G) s.heap H locs → lv_has ls 5 [(0, .ref (gL G (11 + 5 * v))), (1, .int (nI c0)), (2, .int (nI i))] → W p l e ({ frames := 1, cells := 0, slots := 0, locals := 24 } : Room) s m ([.ref (gL G (11 + 5 * v)), .int (nI c0)] : List Value).toArray below meth c H locs 0 0 (MQ below (va_Qv (fun u' => u' = (u.1, judge (gn G) u.1 u.2 v c0)) (KB G (wC G)) (AC G)) ([.ref (gL G (11 + 5 * v)), .int (nI c0)] : List Value).toArray s 0 0 (AC G)) (F0 m 2 ls []) := by
    intro d_2
    induction d_2 using Nat.strongRecOn with
    | ind d_2 ih_2 =>
      intro i X1 hd_2 hci hiT hX1 hTp hHf H locs ls hP hS hl
      have join_153 : ∀ (X3 : XS) (hi : i < mT u.1) (hX3 : X3 = jStep (gn G) u.1 X1 v i) (H : Heap) (locs : List Loc) (ls : Array Slot), va_P (gD G) vwCl ((wC G) ((u.1, X3))) H → va_S (AC G) s.heap H locs → lv_has ls 5 [(0, .ref (gL G (11 + 5 * v))), (1, .int (nI c0)), (2, .int (nI i))] → W p l e ({ frames := 1, cells := 0, slots := 0, locals := 24 } : Room) s m ([.ref (gL G (11 + 5 * v)), .int (nI c0)] : List Value).toArray below meth c H locs 0 0 (MQ below (va_Qv (fun u' => u' = (u.1, judge (gn G) u.1 u.2 v c0)) (KB G (wC G)) (AC G)) ([.ref (gL G (11 + 5 * v)), .int (nI c0)] : List Value).toArray s 0 0 (AC G)) (F0 m 153 ls []) := by
        intro X3 hi hX3 H locs ls hP hS hl
        refine lv_iinc (v := nI (i + 1)) (lv' := [(2, .int (nI (i + 1))), (0, .ref (gL G (11 + 5 * v))), (1, .int (nI c0))]) hx hb dX1_judgeFrom_153 hl (k := 2) rfl (nI_add i 1) (by decide) rfl (fun ls hl => ?_)
        refine lv_goto (tgt := 2) hx hb dX1_judgeFrom_156 (by decide) ?_
        exact ih_2 (mT u.1 - (i + 1)) (by omega) (i + 1) X3 rfl (by omega) (hi) (by rw [jFold_succ hci, ← hX1]; exact hX3) (by rw [hX3]; exact (jStep_le (by omega) (fun h0 => by have := kPar i (Nat.pos_of_ne_zero h0); omega) hTp hHf).1) (by rw [hX3]; exact (jStep_le (by omega) (fun h0 => by have := kPar i (Nat.pos_of_ne_zero h0); omega) hTp hHf).2) _ _ _ hP hS (lv_sub hl [1, 2, 0] rfl)
      have join_65 : ∀ (X2 : XS) (hi : i < mT u.1) (hi0 : 0 < i) (hpi : mPar u.1 i < i) (hX2 : X2 = jKn u.1 X1 v i) (H : Heap) (locs : List Loc) (ls : Array Slot), va_P (gD G) vwCl ((wC G) ((u.1, X2))) H → va_S (AC G) s.heap H locs → lv_has ls 5 [(0, .ref (gL G (11 + 5 * v))), (1, .int (nI c0)), (2, .int (nI i)), (3, .int (nI (mPar u.1 i)))] → W p l e ({ frames := 1, cells := 0, slots := 0, locals := 24 } : Room) s m ([.ref (gL G (11 + 5 * v)), .int (nI c0)] : List Value).toArray below meth c H locs 0 0 (MQ below (va_Qv (fun u' => u' = (u.1, judge (gn G) u.1 u.2 v c0)) (KB G (wC G)) (AC G)) ([.ref (gL G (11 + 5 * v)), .int (nI c0)] : List Value).toArray s 0 0 (AC G)) (F0 m 65 ls []) := by
        intro X2 hi hi0 hpi hX2 H locs ls hP hS hl
        refine lv_iconst (v := nI 3) hx hb dX1_judgeFrom_65 (by decide) ?_
        refine lv_aload_n hx hb dX1_judgeFrom_66 rfl (lv_at hl 0 rfl) ?_
        refine k_get (v := .ref (gL G (12 + 5 * v))) X hK inX1 rfl hP (wC_n0 G ((u.1, X2)) hv) 7 (by decide) tw_1_89 rfl dX1_judgeFrom_67 ?_
        refine lv_iload_n hx hb dX1_judgeFrom_70 rfl (lv_at hl 2 rfl) ?_
        refine k_ild (v := eI (vB (mHs u.1) i v)) X hK hP (wC_n1 G ((u.1, X2)) hv) (by omega) (by decide) rfl dX1_judgeFrom_71 ?_
        refine k_ci (k_runS (As := [.int (eI (vB (mHs u.1) i v))]) (rest := [.int (nI 3)]) X hK hP (mJ_bc32 l G (AC G) (wC G) ((u.1, X2)) (eI (vB (mHs u.1) i v))) ⟨rfl, rfl⟩ tw_1_213 tw_1_214 tw_1_7 tw_1_215 ⟨by decide +kernel, by decide +kernel, (by decide +kernel : (parseMethodDescriptor yJ6_bitCount_0f7a4.desc).map (fun d => d.parameters.length) = some 1)⟩ ⟨Nat.le_of_ble_eq_true rfl, Nat.le_of_ble_eq_true rfl⟩ hl.1 rfl (Nat.le_of_ble_eq_true rfl) ⟨Nat.zero_le _, Nat.zero_le _⟩ dX1_judgeFrom_72) hS (fun r_72 u_72 H locs hq_72 hP hS => ?_)
        have hP := k_su hq_72.2 hP
        refine k_ti (y := nI (nVo u.1 i v)) (hq_72.1.trans (congrArg nI (cnt_vB _ _ _))) ?_
        have hnv : nVo u.1 i v ≤ 10 := cnt_le _ _
        refine lv_imul hx hb dX1_judgeFrom_75 ?_
        refine k_ti (pk_mul 3 (nVo u.1 i v)) ?_
        refine lv_iconst (v := nI 2) hx hb dX1_judgeFrom_76 (by decide) ?_
        refine lv_aload_n hx hb dX1_judgeFrom_77 rfl (lv_at hl 0 rfl) ?_
        refine k_get (v := .int (nI (gn G))) X hK inX1 rfl hP (wC_n0 G ((u.1, X2)) hv) 1 (by decide) tw_1_81 rfl dX1_judgeFrom_78 ?_
        refine lv_imul hx hb dX1_judgeFrom_81 ?_
        refine k_ti (pk_mul 2 (gn G)) ?_
        refine lv_icmp_lt (tgt := 89) hx hb dX1_judgeFrom_82 (by decide) (fun c_82 => ?_) (fun c_82 => ?_)
        · have c_82 : (3 * (nVo u.1 i v)) < (2 * (gn G)) := cLt c_82 (by omega) (by omega)
          refine lv_iconst (v := nI 0) hx hb dX1_judgeFrom_89 (by decide) ?_
          refine lv_istore (lv' := [(4, .int (nI 0)), (0, .ref (gL G (11 + 5 * v))), (1, .int (nI c0)), (2, .int (nI i)), (3, .int (nI (mPar u.1 i)))]) hx hb dX1_judgeFrom_90 hl (by decide) rfl (fun ls hl => ?_)
          refine lv_iload hx hb dX1_judgeFrom_92 (lv_at hl 0 rfl) ?_
          refine lv_if_eq (tgt := 153) hx hb dX1_judgeFrom_94 (by decide) (fun c_94 => ?_) (fun c_94 => ?_)
          · exact join_153 X2 (hi) (by rw [jStep, if_neg (Nat.ne_of_gt hi0), ← hX2, jNo, if_neg (fun h => by simp only [Bool.and_eq_true, decide_eq_true_eq, Bool.not_eq_true'] at h; first | (exact absurd h.1 (by omega)) | (rw [h.2.1] at c_105; exact absurd c_105 (by decide)) | (rw [h.2.2.1] at c_116; exact absurd c_116 (by decide)) | (rw [h.2.2.2] at c_127; exact absurd c_127 (by decide)))]) _ _ _ hP hS (lv_sub hl [1, 2, 3] rfl)
          · exact absurd rfl c_94
        · have c_82 : (2 * (gn G)) ≤ (3 * (nVo u.1 i v)) := cNlt c_82 (by omega) (by omega)
          refine lv_iconst (v := nI 1) hx hb dX1_judgeFrom_85 (by decide) ?_
          refine lv_goto (tgt := 90) hx hb dX1_judgeFrom_86 (by decide) ?_
          refine lv_istore (lv' := [(4, .int (nI 1)), (0, .ref (gL G (11 + 5 * v))), (1, .int (nI c0)), (2, .int (nI i)), (3, .int (nI (mPar u.1 i)))]) hx hb dX1_judgeFrom_90 hl (by decide) rfl (fun ls hl => ?_)
          refine lv_iload hx hb dX1_judgeFrom_92 (lv_at hl 0 rfl) ?_
          refine lv_if_eq (tgt := 153) hx hb dX1_judgeFrom_94 (by decide) (fun c_94 => ?_) (fun c_94 => ?_)
          · exact absurd c_94 (by decide)
          · refine lv_aload_n hx hb dX1_judgeFrom_97 rfl (lv_at hl 1 rfl) ?_
            refine k_get (v := .long (eL ((xNo X2) v))) X hK inX1 rfl hP (wC_n0 G ((u.1, X2)) hv) 12 (by decide) tw_1_98 rfl dX1_judgeFrom_98 ?_
            refine lv_iload_n hx hb dX1_judgeFrom_101 rfl (lv_at hl 3 rfl) ?_
            refine k_ci (k_runSN (As := [.long (eL ((xNo X2) v)), .int (nI i)]) (rest := []) X hK hP (m2_holds l G (AC G) (wC G) ((u.1, X2)) (eL ((xNo X2) v)) (k := i) (by omega)) ⟨rfl, rfl⟩ ntw_1_210 tw_1_211 tw_1_1 tw_1_212 ⟨by decide +kernel, by decide +kernel, (by decide +kernel : (parseMethodDescriptor yX2_holds.desc).map (fun d => d.parameters.length) = some 2)⟩ ⟨Nat.le_of_ble_eq_true rfl, Nat.le_of_ble_eq_true rfl⟩ hl.1 rfl (Nat.le_of_ble_eq_true rfl) ⟨Nat.zero_le _, Nat.zero_le _⟩ dX1_judgeFrom_102) hS (fun r_102 u_102 H locs hq_102 hP hS => ?_)
            have hP := k_su hq_102.2 hP
            refine k_ti (y := bI (xNo X2 v i)) (hq_102.1.trans (congrArg bI (tL_eL _ (by omega)))) ?_
            refine lv_if_ne (tgt := 153) hx hb dX1_judgeFrom_105 (by decide) (fun c_105 => ?_) (fun c_105 => ?_)
            · have c_105 : (xNo X2 v i) = true := (bI_ne0 _).mp c_105
              exact join_153 X2 (hi) (by rw [jStep, if_neg (Nat.ne_of_gt hi0), ← hX2, jNo, if_neg (fun h => by simp only [Bool.and_eq_true, decide_eq_true_eq, Bool.not_eq_true'] at h; first | (exact absurd h.1 (by omega)) | (rw [h.2.1] at c_105; exact absurd c_105 (by decide)) | (rw [h.2.2.1] at c_116; exact absurd c_116 (by decide)) | (rw [h.2.2.2] at c_127; exact absurd c_127 (by decide)))]) _ _ _ hP hS (lv_sub hl [1, 2, 3] rfl)
            · have c_105 : (xNo X2 v i) = false := (bI_eq0 _).mp c_105
              refine lv_aload_n hx hb dX1_judgeFrom_108 rfl (lv_at hl 1 rfl) ?_
              refine k_get (v := .long (eL ((xKn X2) v))) X hK inX1 rfl hP (wC_n0 G ((u.1, X2)) hv) 11 (by decide) tw_1_96 rfl dX1_judgeFrom_109 ?_
              refine lv_iload_n hx hb dX1_judgeFrom_112 rfl (lv_at hl 3 rfl) ?_
              refine k_ci (k_runSN (As := [.long (eL ((xKn X2) v)), .int (nI i)]) (rest := []) X hK hP (m2_holds l G (AC G) (wC G) ((u.1, X2)) (eL ((xKn X2) v)) (k := i) (by omega)) ⟨rfl, rfl⟩ ntw_1_210 tw_1_211 tw_1_1 tw_1_212 ⟨by decide +kernel, by decide +kernel, (by decide +kernel : (parseMethodDescriptor yX2_holds.desc).map (fun d => d.parameters.length) = some 2)⟩ ⟨Nat.le_of_ble_eq_true rfl, Nat.le_of_ble_eq_true rfl⟩ hl.1 rfl (Nat.le_of_ble_eq_true rfl) ⟨Nat.zero_le _, Nat.zero_le _⟩ dX1_judgeFrom_113) hS (fun r_113 u_113 H locs hq_113 hP hS => ?_)
              have hP := k_su hq_113.2 hP
              refine k_ti (y := bI (xKn X2 v i)) (hq_113.1.trans (congrArg bI (tL_eL _ (by omega)))) ?_
              refine lv_if_eq (tgt := 153) hx hb dX1_judgeFrom_116 (by decide) (fun c_116 => ?_) (fun c_116 => ?_)
              · have c_116 : (xKn X2 v i) = false := (bI_eq0 _).mp c_116
                exact join_153 X2 (hi) (by rw [jStep, if_neg (Nat.ne_of_gt hi0), ← hX2, jNo, if_neg (fun h => by simp only [Bool.and_eq_true, decide_eq_true_eq, Bool.not_eq_true'] at h; first | (exact absurd h.1 (by omega)) | (rw [h.2.1] at c_105; exact absurd c_105 (by decide)) | (rw [h.2.2.1] at c_116; exact absurd c_116 (by decide)) | (rw [h.2.2.2] at c_127; exact absurd c_127 (by decide)))]) _ _ _ hP hS (lv_sub hl [1, 2, 3] rfl)
              · have c_116 : (xKn X2 v i) = true := (bI_ne0 _).mp c_116
                refine lv_aload_n hx hb dX1_judgeFrom_119 rfl (lv_at hl 1 rfl) ?_
                refine k_get (v := .long (eL ((xNo X2) v))) X hK inX1 rfl hP (wC_n0 G ((u.1, X2)) hv) 12 (by decide) tw_1_98 rfl dX1_judgeFrom_120 ?_
                refine lv_iload_n hx hb dX1_judgeFrom_123 rfl (lv_at hl 4 rfl) ?_
                refine k_ci (k_runSN (As := [.long (eL ((xNo X2) v)), .int (nI (mPar u.1 i))]) (rest := []) X hK hP (m2_holds l G (AC G) (wC G) ((u.1, X2)) (eL ((xNo X2) v)) (k := mPar u.1 i) (by omega)) ⟨rfl, rfl⟩ ntw_1_210 tw_1_211 tw_1_1 tw_1_212 ⟨by decide +kernel, by decide +kernel, (by decide +kernel : (parseMethodDescriptor yX2_holds.desc).map (fun d => d.parameters.length) = some 2)⟩ ⟨Nat.le_of_ble_eq_true rfl, Nat.le_of_ble_eq_true rfl⟩ hl.1 rfl (Nat.le_of_ble_eq_true rfl) ⟨Nat.zero_le _, Nat.zero_le _⟩ dX1_judgeFrom_124) hS (fun r_124 u_124 H locs hq_124 hP hS => ?_)
                have hP := k_su hq_124.2 hP
                refine k_ti (y := bI (xNo X2 v (mPar u.1 i))) (hq_124.1.trans (congrArg bI (tL_eL _ (by omega)))) ?_
                refine lv_if_eq (tgt := 153) hx hb dX1_judgeFrom_127 (by decide) (fun c_127 => ?_) (fun c_127 => ?_)
                · have c_127 : (xNo X2 v (mPar u.1 i)) = false := (bI_eq0 _).mp c_127
                  exact join_153 X2 (hi) (by rw [jStep, if_neg (Nat.ne_of_gt hi0), ← hX2, jNo, if_neg (fun h => by simp only [Bool.and_eq_true, decide_eq_true_eq, Bool.not_eq_true'] at h; first | (exact absurd h.1 (by omega)) | (rw [h.2.1] at c_105; exact absurd c_105 (by decide)) | (rw [h.2.2.1] at c_116; exact absurd c_116 (by decide)) | (rw [h.2.2.2] at c_127; exact absurd c_127 (by decide)))]) _ _ _ hP hS (lv_sub hl [1, 2, 3] rfl)
                · have c_127 : (xNo X2 v (mPar u.1 i)) = true := (bI_ne0 _).mp c_127
                  refine lv_aload_n hx hb dX1_judgeFrom_130 rfl (lv_at hl 1 rfl) ?_
                  refine lv_dup hx hb dX1_judgeFrom_131 rfl ?_
                  refine k_get (v := .long (eL ((xNo X2) v))) X hK inX1 rfl hP (wC_n0 G ((u.1, X2)) hv) 12 (by decide) tw_1_98 rfl dX1_judgeFrom_132 ?_
                  refine lv_lconst (v := 1) hx hb dX1_judgeFrom_135 rfl ?_
                  refine lv_iload_n hx hb dX1_judgeFrom_136 rfl (lv_at hl 3 rfl) ?_
                  refine lv_lshl (v := (1 : Int64) <<< ((nI i).toInt64 &&& 63)) hx hb dX1_judgeFrom_137 rfl ?_
                  refine lv_lor hx hb dX1_judgeFrom_138 ?_
                  refine k_tl (eL_or (((xNo X2) v)) (by omega)) ?_
                  refine k_put (v := .long (eL (va_up (((xNo X2) v)) i true))) X hK inX1 rfl tyX1_ok nmX1 hP (wC_D hL _) hS (wC_n0 G ((u.1, X2)) hv) 12 (by decide) tw_1_98 rfl rfl rfl (Nat.le_of_ble_eq_true rfl) ((u.1, tNo X2 (up2 (xNo X2) v i true))) (cn_No G ((u.1, X2)) hv i true) dX1_judgeFrom_139 (fun H locs hP hS => ?_)
                  refine lv_aload_n hx hb dX1_judgeFrom_142 rfl (lv_at hl 1 rfl) ?_
                  refine lv_iload_n hx hb dX1_judgeFrom_143 rfl (lv_at hl 3 rfl) ?_
                  refine k_cv (k_runV (As := [.int (nI i)]) (rest := []) X hK hP (wC_n0 G ((u.1, tNo X2 (up2 (xNo X2) v i true))) hv) rfl (m1_raiseTip l G ((u.1, tNo X2 (up2 (xNo X2) v i true))) hL (ok_X hk (fun v => by first | (show xTp X2 v < mT u.1; rw [hX2, jKn_tp]; exact hTp v) | exact cTip_tp (by omega) (fun v => by show xTp X2 v < mT u.1; rw [hX2, jKn_tp]; exact hTp v) v) (fun v => by first | (show xHf X2 v < mT u.1; rw [hX2, jKn_hf]; exact hHf v) | (rw [cTip_hf]; show xHf X2 v < mT u.1; rw [hX2, jKn_hf]; exact hHf v))) (v := v) hv (b := i) (by omega)) ⟨rfl, rfl⟩ tw_1_219 tw_1_221 tw_0_8 tw_1_4 tw_1_222 ⟨by decide +kernel, by decide +kernel, (by decide +kernel : (parseMethodDescriptor yX1_raiseTip.desc).map (fun d => d.parameters.length) = some 1)⟩ ⟨Nat.le_of_ble_eq_true rfl, Nat.le_of_ble_eq_true rfl⟩ hl.1 rfl (Nat.le_of_ble_eq_true rfl) ⟨Nat.zero_le _, Nat.zero_le _⟩ dX1_judgeFrom_144) hS (fun u_144 H locs hq_144 hP hS => ?_)
                  have hP := k_su hq_144 hP
                  refine lv_aload_n hx hb dX1_judgeFrom_147 rfl (lv_at hl 1 rfl) ?_
                  refine lv_iload_n hx hb dX1_judgeFrom_148 rfl (lv_at hl 3 rfl) ?_
                  refine lv_iload_n hx hb dX1_judgeFrom_149 rfl (lv_at hl 4 rfl) ?_
                  refine k_cv (k_runV (As := [.int (nI i), .int (nI (mPar u.1 i))]) (rest := []) X hK hP (wC_n0 G ((u.1, cTip u.1 (tNo X2 (up2 (xNo X2) v i true)) v i)) hv) rfl (m1_makeFinalBelow l G ((u.1, cTip u.1 (tNo X2 (up2 (xNo X2) v i true)) v i)) hL (ok_X hk (fun v => by first | (show xTp X2 v < mT u.1; rw [hX2, jKn_tp]; exact hTp v) | exact cTip_tp (by omega) (fun v => by show xTp X2 v < mT u.1; rw [hX2, jKn_tp]; exact hTp v) v) (fun v => by first | (show xHf X2 v < mT u.1; rw [hX2, jKn_hf]; exact hHf v) | (rw [cTip_hf]; show xHf X2 v < mT u.1; rw [hX2, jKn_hf]; exact hHf v))) (v := v) hv (c0 := i) (q := (mPar u.1 i)) (by omega) (by omega)) ⟨rfl, rfl⟩ tw_1_223 tw_1_225 tw_0_9 tw_1_4 tw_1_226 ⟨by decide +kernel, by decide +kernel, (by decide +kernel : (parseMethodDescriptor yX1_makeFinalBelow.desc).map (fun d => d.parameters.length) = some 2)⟩ ⟨Nat.le_of_ble_eq_true rfl, Nat.le_of_ble_eq_true rfl⟩ hl.1 rfl (Nat.le_of_ble_eq_true rfl) ⟨Nat.zero_le _, Nat.zero_le _⟩ dX1_judgeFrom_150) hS (fun u_150 H locs hq_150 hP hS => ?_)
                  have hP := k_su hq_150 hP
                  exact join_153 ((cFin u.1 (cTip u.1 (tNo X2 (up2 (xNo X2) v i true)) v i) v i (mPar u.1 i))) (hi) (by rw [jStep, if_neg (Nat.ne_of_gt hi0), ← hX2, jNo, if_pos (by simp only [Bool.and_eq_true, decide_eq_true_eq, Bool.not_eq_true']; exact ⟨by omega, c_105, c_116, c_127⟩)]) _ _ _ hP hS (lv_sub hl [1, 2, 3] rfl)
      refine lv_iload_n hx hb dX1_judgeFrom_2 rfl (lv_at hl 2 rfl) ?_
      refine lv_aload_n hx hb dX1_judgeFrom_3 rfl (lv_at hl 0 rfl) ?_
      refine k_get (v := .ref (gL G 3)) X hK inX1 rfl hP (wC_n0 G ((u.1, X1)) hv) 2 (by decide) tw_1_82 rfl dX1_judgeFrom_4 ?_
      refine k_gn (v := .int (nI (mT u.1))) X hK inX0 rfl hP (wC_g G ((u.1, X1)) (k := 3) (by decide)) 7 (by decide) ntw_1_48 rfl dX1_judgeFrom_7 ?_
      refine lv_icmp_ge (tgt := 159) hx hb dX1_judgeFrom_10 (by decide) (fun c_10 => ?_) (fun c_10 => ?_)
      · have c_10 : (mT u.1) ≤ i := cLe c_10 (by omega) (by omega)
        exact k_retv X hr hlocks hP hS dX1_judgeFrom_159 (by rw [judge, show mT u.1 - c0 = i - c0 by omega, ← hX1])
      · have c_10 : i < (mT u.1) := cNle c_10 (by omega) (by omega)
        have hi : i < mT u.1 := c_10
        refine lv_aload_n hx hb dX1_judgeFrom_13 rfl (lv_at hl 0 rfl) ?_
        refine k_get (v := .ref (gL G 3)) X hK inX1 rfl hP (wC_n0 G ((u.1, X1)) hv) 2 (by decide) tw_1_82 rfl dX1_judgeFrom_14 ?_
        refine k_gn (v := .ref (gL G 4)) X hK inX0 rfl hP (wC_g G ((u.1, X1)) (k := 3) (by decide)) 0 (by decide) ntw_1_30 rfl dX1_judgeFrom_17 ?_
        refine lv_iload_n hx hb dX1_judgeFrom_20 rfl (lv_at hl 2 rfl) ?_
        refine k_ild (v := eP (mPar u.1) i) X hK hP (wC_g G ((u.1, X1)) (k := 4) (by decide)) (by omega) (by decide) rfl dX1_judgeFrom_21 ?_
        rcases Nat.eq_zero_or_pos i with hi0 | hi0
        · refine k_ti (show eP (mPar u.1) i = -1 by rw [hi0]; rfl) ?_
          refine lv_istore_n (lv' := [(3, .int (-1)), (0, .ref (gL G (11 + 5 * v))), (1, .int (nI c0)), (2, .int (nI i))]) hx hb dX1_judgeFrom_22 rfl hl (by decide) rfl (fun ls hl => ?_)
          refine lv_iload_n hx hb dX1_judgeFrom_23 rfl (lv_at hl 0 rfl) ?_
          refine lv_iconst (v := -1) hx hb dX1_judgeFrom_24 (by decide) ?_
          refine lv_icmp_ne (tgt := 31) hx hb dX1_judgeFrom_25 (by decide) (fun c_25 => ?_) (fun c_25 => ?_)
          · exact absurd rfl c_25
          · refine lv_goto (tgt := 153) hx hb dX1_judgeFrom_28 (by decide) ?_
            exact join_153 X1 (hi) (by rw [jStep, if_pos hi0]) _ _ _ hP hS (lv_sub hl [1, 2, 3] rfl)
        · refine k_ti (eP_pos hi0) ?_
          have hpi := kPar i hi0
          refine lv_istore_n (lv' := [(3, .int (nI (mPar u.1 i))), (0, .ref (gL G (11 + 5 * v))), (1, .int (nI c0)), (2, .int (nI i))]) hx hb dX1_judgeFrom_22 rfl hl (by decide) rfl (fun ls hl => ?_)
          refine lv_iload_n hx hb dX1_judgeFrom_23 rfl (lv_at hl 0 rfl) ?_
          refine lv_iconst (v := -1) hx hb dX1_judgeFrom_24 (by decide) ?_
          refine lv_icmp_ne (tgt := 31) hx hb dX1_judgeFrom_25 (by decide) (fun c_25 => ?_) (fun c_25 => ?_)
          · refine lv_aload_n hx hb dX1_judgeFrom_31 rfl (lv_at hl 1 rfl) ?_
            refine k_get (v := .long (eL (pB (mHs u.1) v))) X hK inX1 rfl hP (wC_n0 G ((u.1, X1)) hv) 5 (by decide) tw_1_85 rfl dX1_judgeFrom_32 ?_
            refine lv_iload_n hx hb dX1_judgeFrom_35 rfl (lv_at hl 3 rfl) ?_
            refine k_ci (k_runSN (As := [.long (eL (pB (mHs u.1) v)), .int (nI i)]) (rest := []) X hK hP (m2_holds l G (AC G) (wC G) ((u.1, X1)) (eL (pB (mHs u.1) v)) (k := i) (by omega)) ⟨rfl, rfl⟩ ntw_1_210 tw_1_211 tw_1_1 tw_1_212 ⟨by decide +kernel, by decide +kernel, (by decide +kernel : (parseMethodDescriptor yX2_holds.desc).map (fun d => d.parameters.length) = some 2)⟩ ⟨Nat.le_of_ble_eq_true rfl, Nat.le_of_ble_eq_true rfl⟩ hl.1 rfl (Nat.le_of_ble_eq_true rfl) ⟨Nat.zero_le _, Nat.zero_le _⟩ dX1_judgeFrom_36) hS (fun r_36 u_36 H locs hq_36 hP hS => ?_)
            have hP := k_su hq_36.2 hP
            refine k_ti (y := bI (mHs u.1 (11 * i) v)) (hq_36.1.trans (congrArg bI (tL_eL _ (by omega)))) ?_
            refine lv_if_eq (tgt := 65) hx hb dX1_judgeFrom_39 (by decide) (fun c_39 => ?_) (fun c_39 => ?_)
            · have c_39 : (mHs u.1 (11 * i) v) = false := (bI_eq0 _).mp c_39
              exact join_65 X1 (hi) (hi0) (hpi) (by rw [jKn, if_neg (fun h => by simp only [Bool.and_eq_true] at h; first | (rw [h.1] at c_39; exact absurd c_39 (by decide)) | (rw [h.2] at c_50; exact absurd c_50 (by decide)))]) _ _ _ hP hS (lv_sub hl [1, 2, 3, 0] rfl)
            · have c_39 : (mHs u.1 (11 * i) v) = true := (bI_ne0 _).mp c_39
              refine lv_aload_n hx hb dX1_judgeFrom_42 rfl (lv_at hl 1 rfl) ?_
              refine k_get (v := .long (eL ((xKn X1) v))) X hK inX1 rfl hP (wC_n0 G ((u.1, X1)) hv) 11 (by decide) tw_1_96 rfl dX1_judgeFrom_43 ?_
              refine lv_iload_n hx hb dX1_judgeFrom_46 rfl (lv_at hl 0 rfl) ?_
              refine k_ci (k_runSN (As := [.long (eL ((xKn X1) v)), .int (nI (mPar u.1 i))]) (rest := []) X hK hP (m2_holds l G (AC G) (wC G) ((u.1, X1)) (eL ((xKn X1) v)) (k := mPar u.1 i) (by omega)) ⟨rfl, rfl⟩ ntw_1_210 tw_1_211 tw_1_1 tw_1_212 ⟨by decide +kernel, by decide +kernel, (by decide +kernel : (parseMethodDescriptor yX2_holds.desc).map (fun d => d.parameters.length) = some 2)⟩ ⟨Nat.le_of_ble_eq_true rfl, Nat.le_of_ble_eq_true rfl⟩ hl.1 rfl (Nat.le_of_ble_eq_true rfl) ⟨Nat.zero_le _, Nat.zero_le _⟩ dX1_judgeFrom_47) hS (fun r_47 u_47 H locs hq_47 hP hS => ?_)
              have hP := k_su hq_47.2 hP
              refine k_ti (y := bI (xKn X1 v (mPar u.1 i))) (hq_47.1.trans (congrArg bI (tL_eL _ (by omega)))) ?_
              refine lv_if_eq (tgt := 65) hx hb dX1_judgeFrom_50 (by decide) (fun c_50 => ?_) (fun c_50 => ?_)
              · have c_50 : (xKn X1 v (mPar u.1 i)) = false := (bI_eq0 _).mp c_50
                exact join_65 X1 (hi) (hi0) (hpi) (by rw [jKn, if_neg (fun h => by simp only [Bool.and_eq_true] at h; first | (rw [h.1] at c_39; exact absurd c_39 (by decide)) | (rw [h.2] at c_50; exact absurd c_50 (by decide)))]) _ _ _ hP hS (lv_sub hl [1, 2, 3, 0] rfl)
              · have c_50 : (xKn X1 v (mPar u.1 i)) = true := (bI_ne0 _).mp c_50
                refine lv_aload_n hx hb dX1_judgeFrom_53 rfl (lv_at hl 1 rfl) ?_
                refine lv_dup hx hb dX1_judgeFrom_54 rfl ?_
                refine k_get (v := .long (eL ((xKn X1) v))) X hK inX1 rfl hP (wC_n0 G ((u.1, X1)) hv) 11 (by decide) tw_1_96 rfl dX1_judgeFrom_55 ?_
                refine lv_lconst (v := 1) hx hb dX1_judgeFrom_58 rfl ?_
                refine lv_iload_n hx hb dX1_judgeFrom_59 rfl (lv_at hl 3 rfl) ?_
                refine lv_lshl (v := (1 : Int64) <<< ((nI i).toInt64 &&& 63)) hx hb dX1_judgeFrom_60 rfl ?_
                refine lv_lor hx hb dX1_judgeFrom_61 ?_
                refine k_tl (eL_or (((xKn X1) v)) (by omega)) ?_
                refine k_put (v := .long (eL (va_up (((xKn X1) v)) i true))) X hK inX1 rfl tyX1_ok nmX1 hP (wC_D hL _) hS (wC_n0 G ((u.1, X1)) hv) 11 (by decide) tw_1_96 rfl rfl rfl (Nat.le_of_ble_eq_true rfl) ((u.1, tKn X1 (up2 (xKn X1) v i true))) (cn_Kn G ((u.1, X1)) hv i true) dX1_judgeFrom_62 (fun H locs hP hS => ?_)
                exact join_65 ((tKn X1 (up2 (xKn X1) v i true))) (hi) (hi0) (hpi) (by rw [jKn, if_pos (by simp only [Bool.and_eq_true]; exact ⟨c_39, c_50⟩)]) _ _ _ hP hS (lv_sub hl [1, 2, 3, 0] rfl)
          · exact absurd c_25 (m1_ne (by omega))
  exact loop_2 _ c0 u.2 rfl (Nat.le_refl _) (hc0) (by rw [Nat.sub_self]; rfl) (kTp) (kHf) _ _ _ hP hS (lv_sub hl [1, 2, 0] rfl)

set_option maxHeartbeats 4000000 in
set_option maxRecDepth 100000 in
theorem m1_haveProposal (l : Launch) (G : kG) (u : CS) (hL : lay G) (hk : okC G u) {v : Nat} (hv : v < gn G) {b : Nat} (hb0 : 0 < b) (hbT : b < mT u.1) : KMv l G (AC G) (wC G) yX1_haveProposal cX1_haveProposal 3 (Option.none : Option FieldType) ({ frames := 2, cells := 0, slots := 0, locals := 48 }) [.ref (gL G (11 + 5 * v)), .int (nI b)] u (fun u' => u' = cHaveP (gn G) u v b) := by
  refine K_of (by decide) (Nat.le_of_ble_eq_true rfl) ?_
  intro p e s m below meth c X hr hlocks hnm hK hP ls hl
  have hx := X.1
  have hb := X.2.1
  have hown := X.2.2.2.1
  have hts := X.2.2.2.2
  have hS : va_S (AC G) s.heap s.heap [] := va_S.rf
  have hl : lv_has ls 3 [(0, .ref (gL G (11 + 5 * v))), (1, .int (nI b))] := hl
  obtain ⟨kn4, kn10, kT1, kT61, kP40, kLd, kPar, kEp, kHt, kFc, kVf, kTp, kHf⟩ := id hk
  refine lv_aload_n hx hb dX1_haveProposal_0 rfl (lv_at hl 0 rfl) ?_
  refine lv_dup hx hb dX1_haveProposal_1 rfl ?_
  refine k_get (v := .long (eL (pB (mHs u.1) v))) X hK inX1 rfl hP (wC_n0 G u hv) 5 (by decide) tw_1_85 rfl dX1_haveProposal_2 ?_
  refine lv_lconst (v := 1) hx hb dX1_haveProposal_5 rfl ?_
  refine lv_iload_n hx hb dX1_haveProposal_6 rfl (lv_at hl 1 rfl) ?_
  refine lv_lshl (v := (1 : Int64) <<< ((nI b).toInt64 &&& 63)) hx hb dX1_haveProposal_7 rfl ?_
  refine lv_lor hx hb dX1_haveProposal_8 ?_
  refine k_tl (eL_or ((pB (mHs u.1) v)) (by omega)) ?_
  refine k_put (v := .long (eL (va_up ((pB (mHs u.1) v)) b true))) X hK inX1 rfl tyX1_ok nmX1 hP (wC_D hL _) hS (wC_n0 G u hv) 5 (by decide) tw_1_85 rfl rfl rfl (Nat.le_of_ble_eq_true rfl) ((sHs u.1 (up2 (mHs u.1) (11 * b) v true), u.2)) (cn_Hs G u hv b true) dX1_haveProposal_9 (fun H locs hP hS => ?_)
  refine lv_aload_n hx hb dX1_haveProposal_12 rfl (lv_at hl 0 rfl) ?_
  refine lv_dup hx hb dX1_haveProposal_13 rfl ?_
  refine k_get (v := .long (eL (pB (mWy u.1) v))) X hK inX1 rfl hP (wC_n0 G ((sHs u.1 (up2 (mHs u.1) (11 * b) v true), u.2)) hv) 6 (by decide) tw_1_87 rfl dX1_haveProposal_14 ?_
  refine lv_lconst (v := 1) hx hb dX1_haveProposal_17 rfl ?_
  refine lv_iload_n hx hb dX1_haveProposal_18 rfl (lv_at hl 1 rfl) ?_
  refine lv_lshl (v := (1 : Int64) <<< ((nI b).toInt64 &&& 63)) hx hb dX1_haveProposal_19 rfl ?_
  refine lv_ldc2 (v := -1) hx hb hown (hts _ tw_1_205) dX1_haveProposal_20 ?_
  refine lv_lxor hx hb dX1_haveProposal_23 ?_
  refine lv_land hx hb dX1_haveProposal_24 ?_
  refine k_tl (eL_clr ((pB (mWy u.1) v)) (by omega)) ?_
  refine k_put (v := .long (eL (va_up ((pB (mWy u.1) v)) b false))) X hK inX1 rfl tyX1_ok nmX1 hP (wC_D hL _) hS (wC_n0 G ((sHs u.1 (up2 (mHs u.1) (11 * b) v true), u.2)) hv) 6 (by decide) tw_1_87 rfl rfl rfl (Nat.le_of_ble_eq_true rfl) ((sWy (sHs u.1 (up2 (mHs u.1) (11 * b) v true)) (up2 (mWy u.1) (11 * b) v false), u.2)) (cn_Wy G ((sHs u.1 (up2 (mHs u.1) (11 * b) v true), u.2)) hv b false) dX1_haveProposal_25 (fun H locs hP hS => ?_)
  refine lv_aload_n hx hb dX1_haveProposal_28 rfl (lv_at hl 0 rfl) ?_
  refine k_get (v := .ref (gL G 3)) X hK inX1 rfl hP (wC_n0 G ((sWy (sHs u.1 (up2 (mHs u.1) (11 * b) v true)) (up2 (mWy u.1) (11 * b) v false), u.2)) hv) 2 (by decide) tw_1_82 rfl dX1_haveProposal_29 ?_
  refine k_gn (v := .ref (gL G 5)) X hK inX0 rfl hP (wC_g G ((sWy (sHs u.1 (up2 (mHs u.1) (11 * b) v true)) (up2 (mWy u.1) (11 * b) v false), u.2)) (k := 3) (by decide)) 1 (by decide) ntw_1_33 rfl dX1_haveProposal_32 ?_
  refine lv_iload_n hx hb dX1_haveProposal_35 rfl (lv_at hl 1 rfl) ?_
  refine k_ild (v := nI (mEp u.1 b)) X hK hP (wC_g G ((sWy (sHs u.1 (up2 (mHs u.1) (11 * b) v true)) (up2 (mWy u.1) (11 * b) v false), u.2)) (k := 5) (by decide)) (by omega) (by decide) rfl dX1_haveProposal_36 ?_
  have hEb := kEp b
  refine lv_istore_n (lv' := [(2, .int (nI (mEp u.1 b))), (0, .ref (gL G (11 + 5 * v))), (1, .int (nI b))]) hx hb dX1_haveProposal_37 rfl hl (by decide) rfl (fun ls hl => ?_)
  refine lv_aload_n hx hb dX1_haveProposal_38 rfl (lv_at hl 1 rfl) ?_
  refine k_get (v := .ref (gL G (14 + 5 * v))) X hK inX1 rfl hP (wC_n0 G ((sWy (sHs u.1 (up2 (mHs u.1) (11 * b) v true)) (up2 (mWy u.1) (11 * b) v false), u.2)) hv) 9 (by decide) tw_1_93 rfl dX1_haveProposal_39 ?_
  refine lv_iload_n hx hb dX1_haveProposal_42 rfl (lv_at hl 0 rfl) ?_
  refine k_ild (v := oI (mFc u.1 v (mEp u.1 b))) X hK hP (wC_n3 G ((sWy (sHs u.1 (up2 (mHs u.1) (11 * b) v true)) (up2 (mWy u.1) (11 * b) v false), u.2)) hv) (by omega) (by decide) rfl dX1_haveProposal_43 ?_
  rcases Nat.eq_zero_or_pos (mFc u.1 v (mEp u.1 b)) with hFz | hFz
  · refine k_ti (show oI (mFc u.1 v (mEp u.1 b)) = -1 by rw [hFz]; rfl) ?_
    refine lv_iconst (v := -1) hx hb dX1_haveProposal_44 (by decide) ?_
    have hFb := kFc v (mEp u.1 b)
    refine lv_icmp_ne (tgt := 55) hx hb dX1_haveProposal_45 (by decide) (fun c_45 => ?_) (fun c_45 => ?_)
    · exact absurd rfl c_45
    · refine lv_aload_n hx hb dX1_haveProposal_48 rfl (lv_at hl 1 rfl) ?_
      refine k_get (v := .ref (gL G (14 + 5 * v))) X hK inX1 rfl hP (wC_n0 G ((sWy (sHs u.1 (up2 (mHs u.1) (11 * b) v true)) (up2 (mWy u.1) (11 * b) v false), u.2)) hv) 9 (by decide) tw_1_93 rfl dX1_haveProposal_49 ?_
      refine lv_iload_n hx hb dX1_haveProposal_52 rfl (lv_at hl 0 rfl) ?_
      refine lv_iload_n hx hb dX1_haveProposal_53 rfl (lv_at hl 2 rfl) ?_
      refine k_ti (oI_pos hb0) ?_
      refine k_ist (x := oI b) X hK hP (wC_D hL _) hS (wC_n3 G ((sWy (sHs u.1 (up2 (mHs u.1) (11 * b) v true)) (up2 (mWy u.1) (11 * b) v false), u.2)) hv) (by omega) (by decide) ((sFc (sWy (sHs u.1 (up2 (mHs u.1) (11 * b) v true)) (up2 (mWy u.1) (11 * b) v false)) (up2 (mFc u.1) v (mEp u.1 b) b), u.2)) (cn_fc G ((sWy (sHs u.1 (up2 (mHs u.1) (11 * b) v true)) (up2 (mWy u.1) (11 * b) v false), u.2)) hv (mEp u.1 b) b) dX1_haveProposal_54 (fun H locs hP hS => ?_)
      refine lv_aload_n hx hb dX1_haveProposal_55 rfl (lv_at hl 1 rfl) ?_
      refine lv_iload_n hx hb dX1_haveProposal_56 rfl (lv_at hl 2 rfl) ?_
      refine k_cv (k_runV (As := [.int (nI b)]) (rest := []) X hK hP (wC_n0 G ((sFc (sWy (sHs u.1 (up2 (mHs u.1) (11 * b) v true)) (up2 (mWy u.1) (11 * b) v false)) (up2 (mFc u.1) v (mEp u.1 b) b), u.2)) hv) rfl (m1_judgeFrom l G ((sFc (sWy (sHs u.1 (up2 (mHs u.1) (11 * b) v true)) (up2 (mWy u.1) (11 * b) v false)) (up2 (mFc u.1) v (mEp u.1 b) b), u.2)) hL (ok_Fc (u := (sWy (sHs u.1 (up2 (mHs u.1) (11 * b) v true)) (up2 (mWy u.1) (11 * b) v false), u.2)) hk (by omega)) (v := v) hv (c0 := b) (show b ≤ mT u.1 by omega)) ⟨rfl, rfl⟩ tw_1_206 tw_1_208 tw_0_7 tw_1_4 tw_1_209 ⟨by decide +kernel, by decide +kernel, (by decide +kernel : (parseMethodDescriptor yX1_judgeFrom.desc).map (fun d => d.parameters.length) = some 1)⟩ ⟨Nat.le_of_ble_eq_true rfl, Nat.le_of_ble_eq_true rfl⟩ hl.1 rfl (Nat.le_of_ble_eq_true rfl) ⟨Nat.zero_le _, Nat.zero_le _⟩ dX1_haveProposal_57) hS (fun u_57 H locs hq_57 hP hS => ?_)
      have hP := k_su hq_57 hP
      exact k_retv X hr hlocks hP hS dX1_haveProposal_60 (by rw [cHaveP, mHaveP, if_pos hFz])
  · refine k_ti (oI_pos hFz).symm ?_
    refine lv_iconst (v := -1) hx hb dX1_haveProposal_44 (by decide) ?_
    have hFb := kFc v (mEp u.1 b)
    refine lv_icmp_ne (tgt := 55) hx hb dX1_haveProposal_45 (by decide) (fun c_45 => ?_) (fun c_45 => ?_)
    · refine lv_aload_n hx hb dX1_haveProposal_55 rfl (lv_at hl 1 rfl) ?_
      refine lv_iload_n hx hb dX1_haveProposal_56 rfl (lv_at hl 2 rfl) ?_
      refine k_cv (k_runV (As := [.int (nI b)]) (rest := []) X hK hP (wC_n0 G ((sWy (sHs u.1 (up2 (mHs u.1) (11 * b) v true)) (up2 (mWy u.1) (11 * b) v false), u.2)) hv) rfl (m1_judgeFrom l G ((sWy (sHs u.1 (up2 (mHs u.1) (11 * b) v true)) (up2 (mWy u.1) (11 * b) v false), u.2)) hL (hk) (v := v) hv (c0 := b) (show b ≤ mT u.1 by omega)) ⟨rfl, rfl⟩ tw_1_206 tw_1_208 tw_0_7 tw_1_4 tw_1_209 ⟨by decide +kernel, by decide +kernel, (by decide +kernel : (parseMethodDescriptor yX1_judgeFrom.desc).map (fun d => d.parameters.length) = some 1)⟩ ⟨Nat.le_of_ble_eq_true rfl, Nat.le_of_ble_eq_true rfl⟩ hl.1 rfl (Nat.le_of_ble_eq_true rfl) ⟨Nat.zero_le _, Nat.zero_le _⟩ dX1_haveProposal_57) hS (fun u_57 H locs hq_57 hP hS => ?_)
      have hP := k_su hq_57 hP
      exact k_retv X hr hlocks hP hS dX1_haveProposal_60 (by rw [cHaveP, mHaveP, if_neg (Nat.ne_of_gt hFz)])
    · exact absurd c_45 (m1_ne (by omega))

set_option maxHeartbeats 4000000 in
set_option maxRecDepth 100000 in
theorem m1_haveVote (l : Launch) (G : kG) (u : CS) (hL : lay G) (hk : okC G u) {v : Nat} (hv : v < gn G) {b x : Nat} (hb0 : 0 < b) (hbT : b < mT u.1) (hxx : x < 10) : KMv l G (AC G) (wC G) yX1_haveVote cX1_haveVote 3 (Option.none : Option FieldType) ({ frames := 2, cells := 0, slots := 0, locals := 48 }) [.ref (gL G (11 + 5 * v)), .int (nI x), .int (nI b)] u (fun u' => u' = cHaveV (gn G) u v x b) := by
  refine K_of (by decide) (Nat.le_of_ble_eq_true rfl) ?_
  intro p e s m below meth c X hr hlocks hnm hK hP ls hl
  have hx := X.1
  have hb := X.2.1
  have hown := X.2.2.2.1
  have hts := X.2.2.2.2
  have hS : va_S (AC G) s.heap s.heap [] := va_S.rf
  have hl : lv_has ls 3 [(0, .ref (gL G (11 + 5 * v))), (1, .int (nI x)), (2, .int (nI b))] := hl
  obtain ⟨kn4, kn10, kT1, kT61, kP40, kLd, kPar, kEp, kHt, kFc, kVf, kTp, kHf⟩ := id hk
  refine lv_aload_n hx hb dX1_haveVote_0 rfl (lv_at hl 0 rfl) ?_
  refine k_get (v := .ref (gL G (12 + 5 * v))) X hK inX1 rfl hP (wC_n0 G u hv) 7 (by decide) tw_1_89 rfl dX1_haveVote_1 ?_
  refine lv_iload_n hx hb dX1_haveVote_4 rfl (lv_at hl 2 rfl) ?_
  refine lv_dup2_11 hx hb dX1_haveVote_5 rfl rfl ?_
  refine k_ild (v := eI (vB (mHs u.1) b v)) X hK hP (wC_n1 G u hv) (by omega) (by decide) rfl dX1_haveVote_6 ?_
  refine lv_iconst (v := nI 1) hx hb dX1_haveVote_7 (by decide) ?_
  refine lv_iload_n hx hb dX1_haveVote_8 rfl (lv_at hl 1 rfl) ?_
  refine lv_ishl hx hb dX1_haveVote_9 ?_
  refine k_ti (show nI 1 <<< (nI x &&& 31) = (1 : Int32) <<< (nI x &&& 31) from rfl) ?_
  refine lv_ior hx hb dX1_haveVote_10 ?_
  refine k_ti (eI_or (vB (mHs u.1) b v) (by omega)) ?_
  refine k_ist (x := eI (va_up (vB (mHs u.1) b v) x true)) X hK hP (wC_D hL _) hS (wC_n1 G u hv) (by omega) (by decide) ((sHs u.1 (up2 (mHs u.1) (11 * b + 1 + x) v true), u.2)) (cn_vo G u hv (b := b) (x := x) (by omega) true) dX1_haveVote_11 (fun H locs hP hS => ?_)
  refine lv_aload_n hx hb dX1_haveVote_12 rfl (lv_at hl 0 rfl) ?_
  refine k_get (v := .ref (gL G (13 + 5 * v))) X hK inX1 rfl hP (wC_n0 G ((sHs u.1 (up2 (mHs u.1) (11 * b + 1 + x) v true), u.2)) hv) 8 (by decide) tw_1_91 rfl dX1_haveVote_13 ?_
  refine lv_iload_n hx hb dX1_haveVote_16 rfl (lv_at hl 2 rfl) ?_
  refine lv_dup2_11 hx hb dX1_haveVote_17 rfl rfl ?_
  refine k_ild (v := eI (vB (mWy u.1) b v)) X hK hP (wC_n2 G ((sHs u.1 (up2 (mHs u.1) (11 * b + 1 + x) v true), u.2)) hv) (by omega) (by decide) rfl dX1_haveVote_18 ?_
  refine lv_iconst (v := nI 1) hx hb dX1_haveVote_19 (by decide) ?_
  refine lv_iload_n hx hb dX1_haveVote_20 rfl (lv_at hl 1 rfl) ?_
  refine lv_ishl hx hb dX1_haveVote_21 ?_
  refine k_ti (show nI 1 <<< (nI x &&& 31) = (1 : Int32) <<< (nI x &&& 31) from rfl) ?_
  refine lv_iconst (v := -1) hx hb dX1_haveVote_22 (by decide) ?_
  refine lv_ixor hx hb dX1_haveVote_23 ?_
  refine lv_iand hx hb dX1_haveVote_24 ?_
  refine k_ti (eI_clr (vB (mWy u.1) b v) (by omega)) ?_
  refine k_ist (x := eI (va_up (vB (mWy u.1) b v) x false)) X hK hP (wC_D hL _) hS (wC_n2 G ((sHs u.1 (up2 (mHs u.1) (11 * b + 1 + x) v true), u.2)) hv) (by omega) (by decide) ((sWy (sHs u.1 (up2 (mHs u.1) (11 * b + 1 + x) v true)) (up2 (mWy u.1) (11 * b + 1 + x) v false), u.2)) (cn_vw G ((sHs u.1 (up2 (mHs u.1) (11 * b + 1 + x) v true), u.2)) hv (b := b) (x := x) (by omega) false) dX1_haveVote_25 (fun H locs hP hS => ?_)
  refine lv_aload_n hx hb dX1_haveVote_26 rfl (lv_at hl 0 rfl) ?_
  refine lv_iload_n hx hb dX1_haveVote_27 rfl (lv_at hl 2 rfl) ?_
  refine k_cv (k_runV (As := [.int (nI b)]) (rest := []) X hK hP (wC_n0 G ((sWy (sHs u.1 (up2 (mHs u.1) (11 * b + 1 + x) v true)) (up2 (mWy u.1) (11 * b + 1 + x) v false), u.2)) hv) rfl (m1_judgeFrom l G ((sWy (sHs u.1 (up2 (mHs u.1) (11 * b + 1 + x) v true)) (up2 (mWy u.1) (11 * b + 1 + x) v false), u.2)) hL (hk) (v := v) hv (c0 := b) (show b ≤ mT u.1 by omega)) ⟨rfl, rfl⟩ tw_1_206 tw_1_208 tw_0_7 tw_1_4 tw_1_209 ⟨by decide +kernel, by decide +kernel, (by decide +kernel : (parseMethodDescriptor yX1_judgeFrom.desc).map (fun d => d.parameters.length) = some 1)⟩ ⟨Nat.le_of_ble_eq_true rfl, Nat.le_of_ble_eq_true rfl⟩ hl.1 rfl (Nat.le_of_ble_eq_true rfl) ⟨Nat.zero_le _, Nat.zero_le _⟩ dX1_haveVote_28) hS (fun u_28 H locs hq_28 hP hS => ?_)
  have hP := k_su hq_28 hP
  exact k_retv X hr hlocks hP hS dX1_haveVote_31 rfl
