set_option maxHeartbeats 4000000 in
set_option maxRecDepth 100000 in
theorem m2_holds (l : Launch) (G : kG) (A : Nat → Prop) {S : Type} (wd : S → va_W) (u : S) (x : Int64) {k : Nat} (hk : k < 64) : KMi l G A wd yX2_holds cX2_holds 3 (Option.some FieldType.boolean) ({ frames := 0, cells := 0, slots := 0, locals := 0 }) [.long (x), .int (nI k)] u (fun r u' => r = bI (tL x k) ∧ u' = u) := by
  refine K_of (by decide) (Nat.le_of_ble_eq_true rfl) ?_
  intro p e s m below meth c X hr hlocks hnm hK hP ls hl
  have hx := X.1
  have hb := X.2.1
  have hown := X.2.2.2.1
  have hts := X.2.2.2.2
  have hS : va_S A s.heap s.heap [] := va_S.rf
  have hl : lv_has ls 3 [(0, .long (x)), (2, .int (nI k))] := hl
  refine lv_lload_n hx hb dX2_holds_0 rfl (lv_at hl 0 rfl) ?_
  refine lv_iload_n hx hb dX2_holds_1 rfl (lv_at hl 1 rfl) ?_
  refine lv_lushr (v := (x.toUInt64 >>> ((nI k).toInt64.toUInt64 &&& Int64.toUInt64 63)).toInt64) hx hb dX2_holds_2 rfl ?_
  refine lv_lconst (v := 1) hx hb dX2_holds_3 rfl ?_
  refine lv_land hx hb dX2_holds_4 ?_
  refine k_tl (holds_eq x hk) ?_
  refine lv_lconst (v := 0) hx hb dX2_holds_5 rfl ?_
  refine W.lcmp hx hb dX2_holds_6 ?_
  refine lv_if_eq (tgt := 14) hx hb dX2_holds_7 (by decide) (fun c_7 => ?_) (fun c_7 => ?_)
  · have hz : tL x k = false := by
      have h := (lg_cmp_eq _ _).mp c_7
      cases hb : tL x k
      · rfl
      · rw [hb] at h; exact absurd h (by decide)
    refine lv_iconst (v := nI 0) hx hb dX2_holds_14 (by decide) ?_
    exact k_retz X hr hlocks hP hS dX2_holds_15 rfl ⟨by rw [hz]; rfl, rfl⟩
  · have hz : tL x k = true := by
      cases hb : tL x k
      · exact absurd ((lg_cmp_eq _ _).mpr (by rw [hb]; rfl)) c_7
      · rfl
    refine lv_iconst (v := nI 1) hx hb dX2_holds_10 (by decide) ?_
    refine lv_goto (tgt := 15) hx hb dX2_holds_11 (by decide) ?_
    exact k_retz X hr hlocks hP hS dX2_holds_15 rfl ⟨by rw [hz]; rfl, rfl⟩

set_option maxHeartbeats 4000000 in
set_option maxRecDepth 100000 in
theorem m2_isEpoch (l : Launch) (G : kG) (A : Nat → Prop) {S : Type} (wd : S → va_W) (u : S) (x : Int32) : KMi l G A wd yX2_isEpoch cX2_isEpoch 1 (Option.some FieldType.boolean) ({ frames := 0, cells := 0, slots := 0, locals := 0 }) [.int (x)] u (fun r u' => u' = u ∧ ((∃ j : Nat, (1 ≤ j ∧ j ≤ 40) ∧ x = nI j ∧ r = 1) ∨ ((∀ j : Nat, 1 ≤ j ∧ j ≤ 40 → x ≠ nI j) ∧ r = 0))) := by
  refine K_of (by decide) (Nat.le_of_ble_eq_true rfl) ?_
  intro p e s m below meth c X hr hlocks hnm hK hP ls hl
  have hx := X.1
  have hb := X.2.1
  have hown := X.2.2.2.1
  have hts := X.2.2.2.2
  have hS : va_S A s.heap s.heap [] := va_S.rf
  have hl : lv_has ls 1 [(0, .int (x))] := hl
  refine lv_iload_n hx hb dX2_isEpoch_0 rfl (lv_at hl 0 rfl) ?_
  refine lv_iconst (v := nI 1) hx hb dX2_isEpoch_1 (by decide) ?_
  refine lv_icmp_lt (tgt := 15) hx hb dX2_isEpoch_2 (by decide) (fun c_2 => ?_) (fun c_2 => ?_)
  · have hz : ∀ j : Nat, 1 ≤ j ∧ j ≤ 40 → x ≠ nI j := fun j hj e => by
      rw [e] at c_2
      have := cLt c_2 (by omega) (by omega)
      omega
    refine lv_iconst (v := nI 0) hx hb dX2_isEpoch_15 (by decide) ?_
    exact k_retz X hr hlocks hP hS dX2_isEpoch_16 rfl ⟨rfl, Or.inr ⟨hz, rfl⟩⟩
  · refine lv_iload_n hx hb dX2_isEpoch_5 rfl (lv_at hl 0 rfl) ?_
    refine lv_bipush (v := nI 40) hx hb dX2_isEpoch_6 (by decide) ?_
    refine lv_icmp_gt (tgt := 15) hx hb dX2_isEpoch_8 (by decide) (fun c_8 => ?_) (fun c_8 => ?_)
    · have hz : ∀ j : Nat, 1 ≤ j ∧ j ≤ 40 → x ≠ nI j := fun j hj e => by
        rw [e] at c_8
        have := cLt c_8 (by omega) (by omega)
        omega
      refine lv_iconst (v := nI 0) hx hb dX2_isEpoch_15 (by decide) ?_
      exact k_retz X hr hlocks hP hS dX2_isEpoch_16 rfl ⟨rfl, Or.inr ⟨hz, rfl⟩⟩
    · have hz : ∃ j : Nat, (1 ≤ j ∧ j ≤ 40) ∧ x = nI j := by
        have h0 : ¬ x < 0 := fun h => c_2 (by have e : (0 : Int32).toInt = 0 := rfl; rw [Int32.lt_iff_toInt_lt] at h ⊢; rw [e] at h; rw [nI_toInt (by decide)]; omega)
        obtain ⟨j, hj, rfl⟩ := nI_of h0
        exact ⟨j, ⟨cNlt c_2 (by omega) (by omega), cNlt c_8 (by omega) (by omega)⟩, rfl⟩
      refine lv_iconst (v := nI 1) hx hb dX2_isEpoch_11 (by decide) ?_
      refine lv_goto (tgt := 16) hx hb dX2_isEpoch_12 (by decide) ?_
      exact k_retz X hr hlocks hP hS dX2_isEpoch_16 rfl ⟨rfl, Or.inl (hz.elim fun j hj => ⟨j, hj.1, hj.2, rfl⟩)⟩

set_option maxHeartbeats 4000000 in
set_option maxRecDepth 100000 in
theorem m2_nodeAt (l : Launch) (G : kG) (u : CS) (hL : lay G) (hk : okC G u) (x : Int32) : KMq l G (AC G) (wC G) yX2_nodeAt cX2_nodeAt 2 (Option.some (FieldType.object "StreamChain$Node")) ({ frames := 0, cells := 0, slots := 0, locals := 0 }) [.ref (gL G 0), .int (x)] u (fun r u' => u' = u ∧ ((∃ j : Nat, j < gn G ∧ x = nI j ∧ r = some (gL G (11 + 5 * j))) ∨ ((∀ j : Nat, j < gn G → x ≠ nI j) ∧ r = none))) := by
  refine K_of (by decide) (Nat.le_of_ble_eq_true rfl) ?_
  intro p e s m below meth c X hr hlocks hnm hK hP ls hl
  have hx := X.1
  have hb := X.2.1
  have hown := X.2.2.2.1
  have hts := X.2.2.2.2
  have hS : va_S (AC G) s.heap s.heap [] := va_S.rf
  have hl : lv_has ls 2 [(0, .ref (gL G 0)), (1, .int (x))] := hl
  obtain ⟨kn4, kn10, kT1, kT61, kP40, kLd, kPar, kEp, kHt, kFc, kVf, kTp, kHf⟩ := id hk
  refine lv_iload_n hx hb dX2_nodeAt_0 rfl (lv_at hl 1 rfl) ?_
  refine lv_if_lt (tgt := 22) hx hb dX2_nodeAt_1 (by decide) (fun c_1 => ?_) (fun c_1 => ?_)
  · have hz : ∀ j : Nat, j < gn G → x ≠ nI j := fun j hj => ix_lo c_1 hj (by omega)
    refine lv_null hx hb dX2_nodeAt_22 ?_
    exact k_retq none rfl X hr hlocks hP hS dX2_nodeAt_23 ⟨rfl, Or.inr ⟨hz, rfl⟩⟩
  · refine lv_iload_n hx hb dX2_nodeAt_4 rfl (lv_at hl 1 rfl) ?_
    refine lv_aload_n hx hb dX2_nodeAt_5 rfl (lv_at hl 0 rfl) ?_
    refine k_get (v := .ref (gL G 1)) X hK inX2 rfl hP (wC_g G u (k := 0) (by decide)) 1 (by decide) tw_1_140 rfl dX2_nodeAt_6 ?_
    refine k_len X hK hP (wC_g G u (k := 1) (by decide)) dX2_nodeAt_9 ?_
    refine lv_icmp_ge (tgt := 22) hx hb dX2_nodeAt_10 (by decide) (fun c_10 => ?_) (fun c_10 => ?_)
    · have hz : ∀ j : Nat, j < gn G → x ≠ nI j := fun j hj => ix_hi c_10 hj (by omega)
      refine lv_null hx hb dX2_nodeAt_22 ?_
      exact k_retq none rfl X hr hlocks hP hS dX2_nodeAt_23 ⟨rfl, Or.inr ⟨hz, rfl⟩⟩
    · obtain ⟨j, hj, rfl⟩ : ∃ j : Nat, j < gn G ∧ x = nI j := ix_in c_1 (by rw [Int32.lt_iff_toInt_lt]; rw [Int32.le_iff_toInt_le] at c_10; omega) (by omega)
      refine lv_aload_n hx hb dX2_nodeAt_13 rfl (lv_at hl 0 rfl) ?_
      refine k_get (v := .ref (gL G 1)) X hK inX2 rfl hP (wC_g G u (k := 0) (by decide)) 1 (by decide) tw_1_140 rfl dX2_nodeAt_14 ?_
      refine lv_iload_n hx hb dX2_nodeAt_17 rfl (lv_at hl 1 rfl) ?_
      refine k_ald (v := gL G (11 + 5 * j)) X hK hP (wC_g G u (k := 1) (by decide)) (hj) (by omega) rfl dX2_nodeAt_18 ?_
      refine lv_goto (tgt := 23) hx hb dX2_nodeAt_19 (by decide) ?_
      exact k_retq (some (gL G (11 + 5 * j))) rfl X hr hlocks hP hS dX2_nodeAt_23 ⟨rfl, Or.inl ⟨j, hj, rfl, rfl⟩⟩

set_option maxHeartbeats 4000000 in
set_option maxRecDepth 100000 in
theorem m2_areNodes (l : Launch) (G : kG) (u : CS) (hL : lay G) (hk : okC G u) (x : Int32) : KMi l G (AC G) (wC G) yX2_areNodes cX2_areNodes 2 (Option.some FieldType.boolean) ({ frames := 0, cells := 0, slots := 0, locals := 0 }) [.ref (gL G 0), .int (x)] u (fun r u' => u' = u ∧ ((toOk (gn G) x ∧ r = 1) ∨ (¬ toOk (gn G) x ∧ r = 0))) := by
  refine K_of (by decide) (Nat.le_of_ble_eq_true rfl) ?_
  intro p e s m below meth c X hr hlocks hnm hK hP ls hl
  have hx := X.1
  have hb := X.2.1
  have hown := X.2.2.2.1
  have hts := X.2.2.2.2
  have hS : va_S (AC G) s.heap s.heap [] := va_S.rf
  have hl : lv_has ls 2 [(0, .ref (gL G 0)), (1, .int (x))] := hl
  obtain ⟨kn4, kn10, kT1, kT61, kP40, kLd, kPar, kEp, kHt, kFc, kVf, kTp, kHf⟩ := id hk
  refine lv_iload_n hx hb dX2_areNodes_0 rfl (lv_at hl 1 rfl) ?_
  refine lv_if_lt (tgt := 19) hx hb dX2_areNodes_1 (by decide) (fun c_1 => ?_) (fun c_1 => ?_)
  · have hz : ¬ toOk (gn G) x := fun h => by
      rw [Int32.lt_iff_toInt_lt] at c_1
      have e : (0 : Int32).toInt = 0 := rfl
      rw [e] at c_1
      exact absurd h.1 (by omega)
    refine lv_iconst (v := nI 0) hx hb dX2_areNodes_19 (by decide) ?_
    exact k_retz X hr hlocks hP hS dX2_areNodes_20 rfl ⟨rfl, Or.inr ⟨hz, rfl⟩⟩
  · refine lv_iload_n hx hb dX2_areNodes_4 rfl (lv_at hl 1 rfl) ?_
    refine lv_iconst (v := nI 1) hx hb dX2_areNodes_5 (by decide) ?_
    refine lv_aload_n hx hb dX2_areNodes_6 rfl (lv_at hl 0 rfl) ?_
    refine k_get (v := .ref (gL G 1)) X hK inX2 rfl hP (wC_g G u (k := 0) (by decide)) 1 (by decide) tw_1_140 rfl dX2_areNodes_7 ?_
    refine k_len X hK hP (wC_g G u (k := 1) (by decide)) dX2_areNodes_10 ?_
    refine lv_ishl hx hb dX2_areNodes_11 ?_
    refine k_ti (show nI 1 <<< (nI (gn G) &&& 31) = (1 : Int32) <<< (nI (gn G) &&& 31) from rfl) ?_
    refine lv_icmp_ge (tgt := 19) hx hb dX2_areNodes_12 (by decide) (fun c_12 => ?_) (fun c_12 => ?_)
    · have hz : ¬ toOk (gn G) x := fun h => by
        rw [Int32.le_iff_toInt_le, sh_n _ kn10] at c_12
        exact absurd h.2 (by omega)
      refine lv_iconst (v := nI 0) hx hb dX2_areNodes_19 (by decide) ?_
      exact k_retz X hr hlocks hP hS dX2_areNodes_20 rfl ⟨rfl, Or.inr ⟨hz, rfl⟩⟩
    · have hz : toOk (gn G) x := by
        rw [Int32.le_iff_toInt_le, sh_n _ kn10] at c_12
        rw [Int32.lt_iff_toInt_lt] at c_1
        have e : (0 : Int32).toInt = 0 := rfl
        rw [e] at c_1
        exact ⟨by omega, by omega⟩
      refine lv_iconst (v := nI 1) hx hb dX2_areNodes_15 (by decide) ?_
      refine lv_goto (tgt := 20) hx hb dX2_areNodes_16 (by decide) ?_
      exact k_retz X hr hlocks hP hS dX2_areNodes_20 rfl ⟨rfl, Or.inl ⟨hz, rfl⟩⟩

set_option maxHeartbeats 4000000 in
set_option maxRecDepth 100000 in
theorem m2_allNodes (l : Launch) (G : kG) (u : CS) (hL : lay G) (hk : okC G u) : KMi l G (AC G) (wC G) yX2_allNodes cX2_allNodes 1 (Option.some FieldType.int) ({ frames := 0, cells := 0, slots := 0, locals := 0 }) [.ref (gL G 0)] u (fun r u' => r = nI (2 ^ gn G - 1) ∧ u' = u) := by
  refine K_of (by decide) (Nat.le_of_ble_eq_true rfl) ?_
  intro p e s m below meth c X hr hlocks hnm hK hP ls hl
  have hx := X.1
  have hb := X.2.1
  have hown := X.2.2.2.1
  have hts := X.2.2.2.2
  have hS : va_S (AC G) s.heap s.heap [] := va_S.rf
  have hl : lv_has ls 1 [(0, .ref (gL G 0))] := hl
  obtain ⟨kn4, kn10, kT1, kT61, kP40, kLd, kPar, kEp, kHt, kFc, kVf, kTp, kHf⟩ := id hk
  refine lv_iconst (v := nI 1) hx hb dX2_allNodes_0 (by decide) ?_
  refine lv_aload_n hx hb dX2_allNodes_1 rfl (lv_at hl 0 rfl) ?_
  refine k_get (v := .ref (gL G 1)) X hK inX2 rfl hP (wC_g G u (k := 0) (by decide)) 1 (by decide) tw_1_140 rfl dX2_allNodes_2 ?_
  refine k_len X hK hP (wC_g G u (k := 1) (by decide)) dX2_allNodes_5 ?_
  refine lv_ishl hx hb dX2_allNodes_6 ?_
  refine k_ti (show nI 1 <<< (nI (gn G) &&& 31) = (1 : Int32) <<< (nI (gn G) &&& 31) from rfl) ?_
  refine lv_iconst (v := nI 1) hx hb dX2_allNodes_7 (by decide) ?_
  refine lv_isub hx hb dX2_allNodes_8 ?_
  refine k_ti (sh_n1 _ kn10) ?_
  exact k_reti X hr hlocks hP hS dX2_allNodes_9 ⟨rfl, rfl⟩

set_option maxHeartbeats 4000000 in
set_option maxRecDepth 100000 in
theorem m0_exist (l : Launch) (G : kG) (u : CS) (hL : lay G) (hk : okC G u) (x : Int32) : KMi l G (AC G) (wC G) yX0_exist cX0_exist 2 (Option.some FieldType.boolean) ({ frames := 0, cells := 0, slots := 0, locals := 0 }) [.ref (gL G 3), .int (x)] u (fun r u' => u' = u ∧ ((∃ j : Nat, j < mT u.1 ∧ x = nI j ∧ r = 1) ∨ ((∀ j : Nat, j < mT u.1 → x ≠ nI j) ∧ r = 0))) := by
  refine K_of (by decide) (Nat.le_of_ble_eq_true rfl) ?_
  intro p e s m below meth c X hr hlocks hnm hK hP ls hl
  have hx := X.1
  have hb := X.2.1
  have hown := X.2.2.2.1
  have hts := X.2.2.2.2
  have hS : va_S (AC G) s.heap s.heap [] := va_S.rf
  have hl : lv_has ls 2 [(0, .ref (gL G 3)), (1, .int (x))] := hl
  obtain ⟨kn4, kn10, kT1, kT61, kP40, kLd, kPar, kEp, kHt, kFc, kVf, kTp, kHf⟩ := id hk
  refine lv_iload_n hx hb dX0_exist_0 rfl (lv_at hl 1 rfl) ?_
  refine lv_if_lt (tgt := 16) hx hb dX0_exist_1 (by decide) (fun c_1 => ?_) (fun c_1 => ?_)
  · have hz : ∀ j : Nat, j < mT u.1 → x ≠ nI j := fun j hj => ix_lo c_1 hj (by omega)
    refine lv_iconst (v := nI 0) hx hb dX0_exist_16 (by decide) ?_
    exact k_retz X hr hlocks hP hS dX0_exist_17 rfl ⟨rfl, Or.inr ⟨hz, rfl⟩⟩
  · refine lv_iload_n hx hb dX0_exist_4 rfl (lv_at hl 1 rfl) ?_
    refine lv_aload_n hx hb dX0_exist_5 rfl (lv_at hl 0 rfl) ?_
    refine k_get (v := .int (nI (mT u.1))) X hK inX0 rfl hP (wC_g G u (k := 3) (by decide)) 7 (by decide) tw_1_47 rfl dX0_exist_6 ?_
    refine lv_icmp_ge (tgt := 16) hx hb dX0_exist_9 (by decide) (fun c_9 => ?_) (fun c_9 => ?_)
    · have hz : ∀ j : Nat, j < mT u.1 → x ≠ nI j := fun j hj => ix_hi c_9 hj (by omega)
      refine lv_iconst (v := nI 0) hx hb dX0_exist_16 (by decide) ?_
      exact k_retz X hr hlocks hP hS dX0_exist_17 rfl ⟨rfl, Or.inr ⟨hz, rfl⟩⟩
    · have hz : ∃ j : Nat, j < mT u.1 ∧ x = nI j := ix_in c_1 (by rw [Int32.lt_iff_toInt_lt]; rw [Int32.le_iff_toInt_le] at c_9; omega) (by omega)
      refine lv_iconst (v := nI 1) hx hb dX0_exist_12 (by decide) ?_
      refine lv_goto (tgt := 17) hx hb dX0_exist_13 (by decide) ?_
      exact k_retz X hr hlocks hP hS dX0_exist_17 rfl ⟨rfl, Or.inl (hz.elim fun j hj => ⟨j, hj.1, hj.2, rfl⟩)⟩

set_option maxHeartbeats 4000000 in
set_option maxRecDepth 100000 in
theorem m0_haveRoom (l : Launch) (G : kG) (u : CS) (hL : lay G) (hk : okC G u) : KMi l G (AC G) (wC G) yX0_haveRoom cX0_haveRoom 1 (Option.some FieldType.boolean) ({ frames := 0, cells := 0, slots := 0, locals := 0 }) [.ref (gL G 3)] u (fun r u' => r = bI (decide (mT u.1 ≤ 60)) ∧ u' = u) := by
  refine K_of (by decide) (Nat.le_of_ble_eq_true rfl) ?_
  intro p e s m below meth c X hr hlocks hnm hK hP ls hl
  have hx := X.1
  have hb := X.2.1
  have hown := X.2.2.2.1
  have hts := X.2.2.2.2
  have hS : va_S (AC G) s.heap s.heap [] := va_S.rf
  have hl : lv_has ls 1 [(0, .ref (gL G 3))] := hl
  obtain ⟨kn4, kn10, kT1, kT61, kP40, kLd, kPar, kEp, kHt, kFc, kVf, kTp, kHf⟩ := id hk
  refine lv_aload_n hx hb dX0_haveRoom_0 rfl (lv_at hl 0 rfl) ?_
  refine k_get (v := .int (nI (mT u.1))) X hK inX0 rfl hP (wC_g G u (k := 3) (by decide)) 7 (by decide) tw_1_47 rfl dX0_haveRoom_1 ?_
  refine lv_bipush (v := nI 60) hx hb dX0_haveRoom_4 (by decide) ?_
  refine lv_icmp_gt (tgt := 13) hx hb dX0_haveRoom_6 (by decide) (fun c_6 => ?_) (fun c_6 => ?_)
  · have c_6 : 60 < (mT u.1) := cLt c_6 (by omega) (by omega)
    refine lv_iconst (v := nI 0) hx hb dX0_haveRoom_13 (by decide) ?_
    exact k_retz X hr hlocks hP hS dX0_haveRoom_14 rfl ⟨by rw [show decide (mT u.1 ≤ 60) = false from decide_eq_false (by omega)]; rfl, rfl⟩
  · have c_6 : (mT u.1) ≤ 60 := cNlt c_6 (by omega) (by omega)
    refine lv_iconst (v := nI 1) hx hb dX0_haveRoom_9 (by decide) ?_
    refine lv_goto (tgt := 14) hx hb dX0_haveRoom_10 (by decide) ?_
    exact k_retz X hr hlocks hP hS dX0_haveRoom_14 rfl ⟨by rw [show decide (mT u.1 ≤ 60) = true from decide_eq_true (by omega)]; rfl, rfl⟩
