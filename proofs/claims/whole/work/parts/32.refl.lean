set_option maxHeartbeats 4000000 in
set_option maxRecDepth 100000 in
theorem m3_in (l : Launch) (G : kG) (A : Nat → Prop) {S : Type} (wd : S → va_W) (u : S) (x a b : Int64) : KMi l G A wd yX3_in cX3_in 6 (Option.some FieldType.boolean) ({ frames := 0, cells := 0, slots := 0, locals := 0 }) [.long (x), .long (a), .long (b)] u (fun r u' => r = bI (decide (a ≤ x) && decide (x ≤ b)) ∧ u' = u) := by
  refine K_of (by decide) (Nat.le_of_ble_eq_true rfl) ?_
  intro p e s m below meth c X hr hlocks hnm hK hP ls hl
  have hx := X.1
  have hb := X.2.1
  have hown := X.2.2.2.1
  have hts := X.2.2.2.2
  have hS : va_S A s.heap s.heap [] := va_S.rf
  have hl : lv_has ls 6 [(0, .long (x)), (2, .long (a)), (4, .long (b))] := hl
  refine lv_lload_n hx hb dX3_in_0 rfl (lv_at hl 0 rfl) ?_
  refine lv_lload_n hx hb dX3_in_1 rfl (lv_at hl 1 rfl) ?_
  refine W.lcmp hx hb dX3_in_2 ?_
  refine lv_if_lt (tgt := 17) hx hb dX3_in_3 (by decide) (fun c_3 => ?_) (fun c_3 => ?_)
  · have hz : (decide (a ≤ x) && decide (x ≤ b)) = false := by
      rw [decide_eq_false (fun h => absurd ((lg_cmp_lt _ _).mp c_3) (Int64.not_lt.mpr h)), Bool.false_and]
    refine lv_iconst (v := nI 0) hx hb dX3_in_17 (by decide) ?_
    exact k_retz X hr hlocks hP hS dX3_in_18 rfl ⟨by rw [hz]; rfl, rfl⟩
  · have hz1 : a ≤ x := Int64.not_lt.mp fun h => c_3 ((lg_cmp_lt _ _).mpr h)
    refine lv_lload_n hx hb dX3_in_6 rfl (lv_at hl 0 rfl) ?_
    refine lv_lload hx hb dX3_in_7 (lv_at hl 2 rfl) ?_
    refine W.lcmp hx hb dX3_in_9 ?_
    refine lv_if_gt (tgt := 17) hx hb dX3_in_10 (by decide) (fun c_10 => ?_) (fun c_10 => ?_)
    · have hz : (decide (a ≤ x) && decide (x ≤ b)) = false := by
        rw [decide_eq_false (p := x ≤ b) (fun h => absurd ((lg_cmp_gt _ _).mp c_10) (Int64.not_lt.mpr h)), Bool.and_false]
      refine lv_iconst (v := nI 0) hx hb dX3_in_17 (by decide) ?_
      exact k_retz X hr hlocks hP hS dX3_in_18 rfl ⟨by rw [hz]; rfl, rfl⟩
    · have hz : (decide (a ≤ x) && decide (x ≤ b)) = true := by
        rw [decide_eq_true hz1, decide_eq_true (p := x ≤ b) (Int64.not_lt.mp fun h => c_10 ((lg_cmp_gt _ _).mpr h))]; rfl
      refine lv_iconst (v := nI 1) hx hb dX3_in_13 (by decide) ?_
      refine lv_goto (tgt := 18) hx hb dX3_in_14 (by decide) ?_
      exact k_retz X hr hlocks hP hS dX3_in_18 rfl ⟨by rw [hz]; rfl, rfl⟩

set_option maxHeartbeats 4000000 in
set_option maxRecDepth 100000 in
theorem m3_isNode (l : Launch) (G : kG) (r : RS) (hL : layR G) (hk : okR G r) (x : Int32) : KMi l G (AR G) (wR G) yX3_isNode cX3_isNode 2 (Option.some FieldType.boolean) ({ frames := 1, cells := 0, slots := 0, locals := 25 }) [.ref (gL G 0), .int (x)] r (fun z u' => u' = r ∧ ((∃ j : Nat, j < gn G ∧ x = nI j ∧ z = 1) ∨ ((∀ j : Nat, j < gn G → x ≠ nI j) ∧ z = 0))) := by
  refine K_of (by decide) (Nat.le_of_ble_eq_true rfl) ?_
  intro p e s m below meth c X hr hlocks hnm hK hP ls hl
  have hx := X.1
  have hb := X.2.1
  have hown := X.2.2.2.1
  have hts := X.2.2.2.2
  have hS : va_S (AR G) s.heap s.heap [] := va_S.rf
  have hl : lv_has ls 2 [(0, .ref (gL G 0)), (1, .int (x))] := hl
  obtain ⟨⟨kn4, kn10⟩, ⟨kT1, kT61⟩, kP40, kLd, kPar, kEp, kHt, kVf⟩ := id hk
  refine lv_iload_n hx hb dX3_isNode_0 rfl (lv_at hl 1 rfl) ?_
  refine lv_i2l (v := x.toInt64) hx hb dX3_isNode_1 rfl ?_
  refine lv_lconst (v := 0) hx hb dX3_isNode_2 rfl ?_
  refine lv_aload_n hx hb dX3_isNode_3 rfl (lv_at hl 0 rfl) ?_
  refine k_get (v := .int (nI (gn G))) X hK inX3 rfl hP (wR_g G r (k := 0) (by decide)) 1 (by decide) tw_2_136 rfl dX3_isNode_4 ?_
  refine lv_iconst (v := nI 1) hx hb dX3_isNode_7 (by decide) ?_
  refine lv_isub hx hb dX3_isNode_8 ?_
  refine k_ti (pk_sub (by omega)) ?_
  refine lv_i2l (v := (nI (gn G - 1)).toInt64) hx hb dX3_isNode_9 rfl ?_
  refine k_ci (k_runS (As := [.long (x.toInt64), .long (0), .long ((nI (gn G - 1)).toInt64)]) (rest := []) X hK hP (m3_in l G (AR G) (wR G) r x.toInt64 0 ((nI (gn G - 1)).toInt64)) ⟨rfl, rfl⟩ tw_2_226 tw_2_227 tw_1_6 tw_2_228 ⟨by decide +kernel, by decide +kernel, (by decide +kernel : (parseMethodDescriptor yX3_in.desc).map (fun d => d.parameters.length) = some 3)⟩ ⟨Nat.le_of_ble_eq_true rfl, Nat.le_of_ble_eq_true rfl⟩ hl.1 rfl (Nat.le_of_ble_eq_true rfl) ⟨Nat.zero_le _, Nat.zero_le _⟩ dX3_isNode_10) hS (fun r_10 u_10 H locs hq_10 hP hS => ?_)
  have hP := k_su hq_10.2 hP
  have hq2_10 : r_10 = bI (decide (lN 0 ≤ x.toInt64) && decide (x.toInt64 ≤ lN (gn G - 1))) := by
    rw [hq_10.1, show (nI (gn G - 1)).toInt64 = lN (gn G - 1) from (nI_l (by omega))]; rfl
  rcases in_cases x (a := 0) (k := (gn G - 1)) (by decide) (by omega) with ⟨j_10, hj_10, hx_10, hr_10⟩ | ⟨hz_10, hr_10⟩
  · rw [hr_10] at hq2_10
    subst hx_10
    refine k_ti (y := 1) hq2_10 ?_
    exact k_retz X hr hlocks hP hS dX3_isNode_13 rfl ⟨rfl, Or.inl ⟨j_10, by omega, rfl, rfl⟩⟩
  · rw [hr_10] at hq2_10
    refine k_ti (y := 0) hq2_10 ?_
    exact k_retz X hr hlocks hP hS dX3_isNode_13 rfl ⟨rfl, Or.inr ⟨fun j hj => hz_10 j ⟨Nat.zero_le _, by omega⟩, rfl⟩⟩

set_option maxHeartbeats 4000000 in
set_option maxRecDepth 100000 in
theorem m3_isBlock (l : Launch) (G : kG) (r : RS) (hL : layR G) (hk : okR G r) (x : Int32) : KMi l G (AR G) (wR G) yX3_isBlock cX3_isBlock 2 (Option.some FieldType.boolean) ({ frames := 1, cells := 0, slots := 0, locals := 25 }) [.ref (gL G 0), .int (x)] r (fun z u' => u' = r ∧ ((∃ j : Nat, j < mT r.1 ∧ x = nI j ∧ z = 1) ∨ ((∀ j : Nat, j < mT r.1 → x ≠ nI j) ∧ z = 0))) := by
  refine K_of (by decide) (Nat.le_of_ble_eq_true rfl) ?_
  intro p e s m below meth c X hr hlocks hnm hK hP ls hl
  have hx := X.1
  have hb := X.2.1
  have hown := X.2.2.2.1
  have hts := X.2.2.2.2
  have hS : va_S (AR G) s.heap s.heap [] := va_S.rf
  have hl : lv_has ls 2 [(0, .ref (gL G 0)), (1, .int (x))] := hl
  obtain ⟨⟨kn4, kn10⟩, ⟨kT1, kT61⟩, kP40, kLd, kPar, kEp, kHt, kVf⟩ := id hk
  refine lv_iload_n hx hb dX3_isBlock_0 rfl (lv_at hl 1 rfl) ?_
  refine lv_i2l (v := x.toInt64) hx hb dX3_isBlock_1 rfl ?_
  refine lv_lconst (v := 0) hx hb dX3_isBlock_2 rfl ?_
  refine lv_aload_n hx hb dX3_isBlock_3 rfl (lv_at hl 0 rfl) ?_
  refine k_get (v := .int (nI (mT r.1))) X hK inX3 rfl hP (wR_g G r (k := 0) (by decide)) 6 (by decide) tw_2_141 rfl dX3_isBlock_4 ?_
  refine lv_iconst (v := nI 1) hx hb dX3_isBlock_7 (by decide) ?_
  refine lv_isub hx hb dX3_isBlock_8 ?_
  refine k_ti (pk_sub (by omega)) ?_
  refine lv_i2l (v := (nI (mT r.1 - 1)).toInt64) hx hb dX3_isBlock_9 rfl ?_
  refine k_ci (k_runS (As := [.long (x.toInt64), .long (0), .long ((nI (mT r.1 - 1)).toInt64)]) (rest := []) X hK hP (m3_in l G (AR G) (wR G) r x.toInt64 0 ((nI (mT r.1 - 1)).toInt64)) ⟨rfl, rfl⟩ tw_2_226 tw_2_227 tw_1_6 tw_2_228 ⟨by decide +kernel, by decide +kernel, (by decide +kernel : (parseMethodDescriptor yX3_in.desc).map (fun d => d.parameters.length) = some 3)⟩ ⟨Nat.le_of_ble_eq_true rfl, Nat.le_of_ble_eq_true rfl⟩ hl.1 rfl (Nat.le_of_ble_eq_true rfl) ⟨Nat.zero_le _, Nat.zero_le _⟩ dX3_isBlock_10) hS (fun r_10 u_10 H locs hq_10 hP hS => ?_)
  have hP := k_su hq_10.2 hP
  have hq2_10 : r_10 = bI (decide (lN 0 ≤ x.toInt64) && decide (x.toInt64 ≤ lN (mT r.1 - 1))) := by
    rw [hq_10.1, show (nI (mT r.1 - 1)).toInt64 = lN (mT r.1 - 1) from (nI_l (by omega))]; rfl
  rcases in_cases x (a := 0) (k := (mT r.1 - 1)) (by decide) (by omega) with ⟨j_10, hj_10, hx_10, hr_10⟩ | ⟨hz_10, hr_10⟩
  · rw [hr_10] at hq2_10
    subst hx_10
    refine k_ti (y := 1) hq2_10 ?_
    exact k_retz X hr hlocks hP hS dX3_isBlock_13 rfl ⟨rfl, Or.inl ⟨j_10, by omega, rfl, rfl⟩⟩
  · rw [hr_10] at hq2_10
    refine k_ti (y := 0) hq2_10 ?_
    exact k_retz X hr hlocks hP hS dX3_isBlock_13 rfl ⟨rfl, Or.inr ⟨fun j hj => hz_10 j ⟨Nat.zero_le _, by omega⟩, rfl⟩⟩

set_option maxHeartbeats 4000000 in
set_option maxRecDepth 100000 in
theorem m3_isEpoch (l : Launch) (G : kG) (A : Nat → Prop) {S : Type} (wd : S → va_W) (u : S) (x : Int32) : KMi l G A wd yX3_isEpoch cX3_isEpoch 1 (Option.some FieldType.boolean) ({ frames := 1, cells := 0, slots := 0, locals := 25 }) [.int (x)] u (fun z u' => u' = u ∧ ((∃ j : Nat, (1 ≤ j ∧ j ≤ 40) ∧ x = nI j ∧ z = 1) ∨ ((∀ j : Nat, 1 ≤ j ∧ j ≤ 40 → x ≠ nI j) ∧ z = 0))) := by
  refine K_of (by decide) (Nat.le_of_ble_eq_true rfl) ?_
  intro p e s m below meth c X hr hlocks hnm hK hP ls hl
  have hx := X.1
  have hb := X.2.1
  have hown := X.2.2.2.1
  have hts := X.2.2.2.2
  have hS : va_S A s.heap s.heap [] := va_S.rf
  have hl : lv_has ls 1 [(0, .int (x))] := hl
  refine lv_iload_n hx hb dX3_isEpoch_0 rfl (lv_at hl 0 rfl) ?_
  refine lv_i2l (v := x.toInt64) hx hb dX3_isEpoch_1 rfl ?_
  refine lv_lconst (v := 1) hx hb dX3_isEpoch_2 rfl ?_
  refine lv_ldc2 (v := 40) hx hb hown (hts _ tw_2_225) dX3_isEpoch_3 ?_
  refine k_ci (k_runS (As := [.long (x.toInt64), .long (1), .long (40)]) (rest := []) X hK hP (m3_in l G A wd u x.toInt64 1 40) ⟨rfl, rfl⟩ tw_2_226 tw_2_227 tw_1_6 tw_2_228 ⟨by decide +kernel, by decide +kernel, (by decide +kernel : (parseMethodDescriptor yX3_in.desc).map (fun d => d.parameters.length) = some 3)⟩ ⟨Nat.le_of_ble_eq_true rfl, Nat.le_of_ble_eq_true rfl⟩ hl.1 rfl (Nat.le_of_ble_eq_true rfl) ⟨Nat.zero_le _, Nat.zero_le _⟩ dX3_isEpoch_6) hS (fun r_6 u_6 H locs hq_6 hP hS => ?_)
  have hP := k_su hq_6.2 hP
  have hq2_6 : r_6 = bI (decide (lN 1 ≤ x.toInt64) && decide (x.toInt64 ≤ lN 40)) := by
    rw [hq_6.1, show 40 = lN 40 from rfl]; rfl
  rcases in_cases x (a := 1) (k := 40) (by decide) (by omega) with ⟨j_6, hj_6, hx_6, hr_6⟩ | ⟨hz_6, hr_6⟩
  · rw [hr_6] at hq2_6
    subst hx_6
    refine k_ti (y := 1) hq2_6 ?_
    exact k_retz X hr hlocks hP hS dX3_isEpoch_9 rfl ⟨rfl, Or.inl ⟨j_6, hj_6, rfl, rfl⟩⟩
  · rw [hr_6] at hq2_6
    refine k_ti (y := 0) hq2_6 ?_
    exact k_retz X hr hlocks hP hS dX3_isEpoch_9 rfl ⟨rfl, Or.inr ⟨hz_6, rfl⟩⟩

set_option maxHeartbeats 4000000 in
set_option maxRecDepth 100000 in
theorem m3_letter (l : Launch) (G : kG) (A : Nat → Prop) {S : Type} (wd : S → va_W) (u : S) (b x : Nat) : KMi l G A wd yX3_letter cX3_letter 2 (Option.some FieldType.int) ({ frames := 0, cells := 0, slots := 0, locals := 0 }) [.int (nI b), .int (nI x)] u (fun z u' => z = nI (11 * b + 1 + x) ∧ u' = u) := by
  refine K_of (by decide) (Nat.le_of_ble_eq_true rfl) ?_
  intro p e s m below meth c X hr hlocks hnm hK hP ls hl
  have hx := X.1
  have hb := X.2.1
  have hown := X.2.2.2.1
  have hts := X.2.2.2.2
  have hS : va_S A s.heap s.heap [] := va_S.rf
  have hl : lv_has ls 2 [(0, .int (nI b)), (1, .int (nI x))] := hl
  refine lv_bipush (v := nI 11) hx hb dX3_letter_0 (by decide) ?_
  refine lv_iload_n hx hb dX3_letter_2 rfl (lv_at hl 0 rfl) ?_
  refine lv_imul hx hb dX3_letter_3 ?_
  refine k_ti (pk_mul 11 b) ?_
  refine lv_iconst (v := nI 1) hx hb dX3_letter_4 (by decide) ?_
  refine lv_iadd hx hb dX3_letter_5 ?_
  refine k_ti (nI_add (11 * b) 1) ?_
  refine lv_iload_n hx hb dX3_letter_6 rfl (lv_at hl 1 rfl) ?_
  refine lv_iadd hx hb dX3_letter_7 ?_
  refine k_ti (nI_add ((11 * b) + 1) x) ?_
  exact k_reti X hr hlocks hP hS dX3_letter_8 ⟨rfl, rfl⟩

set_option maxHeartbeats 4000000 in
set_option maxRecDepth 100000 in
theorem m3_letterN (l : Launch) (G : kG) (A : Nat → Prop) {S : Type} (wd : S → va_W) (u : S) (b : Nat) : KMi l G A wd yX3_letter cX3_letter 2 (Option.some FieldType.int) ({ frames := 0, cells := 0, slots := 0, locals := 0 }) [.int (nI b), .int (-1)] u (fun z u' => z = nI (11 * b) ∧ u' = u) := by
  refine K_of (by decide) (Nat.le_of_ble_eq_true rfl) ?_
  intro p e s m below meth c X hr hlocks hnm hK hP ls hl
  have hx := X.1
  have hb := X.2.1
  have hown := X.2.2.2.1
  have hts := X.2.2.2.2
  have hS : va_S A s.heap s.heap [] := va_S.rf
  have hl : lv_has ls 2 [(0, .int (nI b)), (1, .int (-1))] := hl
  refine lv_bipush (v := nI 11) hx hb dX3_letter_0 (by decide) ?_
  refine lv_iload_n hx hb dX3_letter_2 rfl (lv_at hl 0 rfl) ?_
  refine lv_imul hx hb dX3_letter_3 ?_
  refine k_ti (pk_mul 11 b) ?_
  refine lv_iconst (v := nI 1) hx hb dX3_letter_4 (by decide) ?_
  refine lv_iadd hx hb dX3_letter_5 ?_
  refine k_ti (nI_add (11 * b) 1) ?_
  refine lv_iload_n hx hb dX3_letter_6 rfl (lv_at hl 1 rfl) ?_
  refine lv_iadd hx hb dX3_letter_7 ?_
  refine k_ti (pk_m1 (11 * b)) ?_
  exact k_reti X hr hlocks hP hS dX3_letter_8 ⟨rfl, rfl⟩

set_option maxHeartbeats 4000000 in
set_option maxRecDepth 100000 in
theorem m3_votesOf (l : Launch) (G : kG) (r : RS) (hL : layR G) (hk : okR G r) {v b : Nat} (hv : v < gn G) (hbb : b ≤ 60) : KMi l G (AR G) (wR G) yX3_votesOf cX3_votesOf 5 (Option.some FieldType.int) ({ frames := 1, cells := 0, slots := 0, locals := 21 }) [.ref (gL G 0), .int (nI v), .int (nI b)] r (fun z u' => z = nI (cnt (fun x => mHs r.1 (11 * b + 1 + x) v) (gn G)) ∧ u' = r) := by
  refine K_of (by decide) (Nat.le_of_ble_eq_true rfl) ?_
  intro p e s m below meth c X hr hlocks hnm hK hP ls hl
  have hx := X.1
  have hb := X.2.1
  have hown := X.2.2.2.1
  have hts := X.2.2.2.2
  have hS : va_S (AR G) s.heap s.heap [] := va_S.rf
  have hl : lv_has ls 5 [(0, .ref (gL G 0)), (1, .int (nI v)), (2, .int (nI b))] := hl
  obtain ⟨⟨kn4, kn10⟩, ⟨kT1, kT61⟩, kP40, kLd, kPar, kEp, kHt, kVf⟩ := id hk
  refine lv_iconst (v := nI 0) hx hb dX3_votesOf_0 (by decide) ?_
  refine lv_istore_n (lv' := [(3, .int (nI 0)), (0, .ref (gL G 0)), (1, .int (nI v)), (2, .int (nI b))]) hx hb dX3_votesOf_1 rfl hl (by decide) rfl (fun ls hl => ?_)
  refine lv_iconst (v := nI 0) hx hb dX3_votesOf_2 (by decide) ?_
  refine lv_istore (lv' := [(4, .int (nI 0)), (3, .int (nI 0)), (0, .ref (gL G 0)), (1, .int (nI v)), (2, .int (nI b))]) hx hb dX3_votesOf_3 hl (by decide) rfl (fun ls hl => ?_)
  have loop_5 : ∀ (d_5 : Nat) (i : Nat), gn G - i = d_5 → (i ≤ gn G) → ∀ (H : Heap) (locs : List Loc) (ls : Array Slot), va_P (gD G) vwCl ((wR G) r) H → va_S (AR G) s.heap H locs → lv_has ls 5 [(0, .ref (gL G 0)), (1, .int (nI v)), (2, .int (nI b)), (3, .int (nI (cnt (fun x => mHs r.1 (11 * b + 1 + x) v) i))), (4, .int (nI i))] → W p l e ({ frames := 1, cells := 0, slots := 0, locals := 21 } : Room) s m ([.ref (gL G 0), .int (nI v), .int (nI b)] : List Value).toArray below meth c H locs 0 0 (MQ below (va_Qi (fun z u' => z = nI (cnt (fun x => mHs r.1 (11 * b + 1 + x) v) (gn G)) ∧ u' = r) (KB G (wR G)) (AR G)) ([.ref (gL G 0), .int (nI v), .int (nI b)] : List Value).toArray s 0 0 (AR G)) (F0 m 5 ls []) := by
    intro d_5
    induction d_5 using Nat.strongRecOn with
    | ind d_5 ih_5 =>
      intro i hd_5 hi H locs ls hP hS hl
      refine lv_iload hx hb dX3_votesOf_5 (lv_at hl 4 rfl) ?_
      refine lv_aload_n hx hb dX3_votesOf_7 rfl (lv_at hl 0 rfl) ?_
      refine k_get (v := .int (nI (gn G))) X hK inX3 rfl hP (wR_g G r (k := 0) (by decide)) 1 (by decide) tw_2_136 rfl dX3_votesOf_8 ?_
      refine lv_icmp_ge (tgt := 47) hx hb dX3_votesOf_11 (by decide) (fun c_11 => ?_) (fun c_11 => ?_)
      · have c_11 : (gn G) ≤ i := cLe c_11 (by omega) (by omega)
        refine lv_iload_n hx hb dX3_votesOf_47 rfl (lv_at hl 3 rfl) ?_
        exact k_reti X hr hlocks hP hS dX3_votesOf_48 ⟨by rw [show i = gn G by omega], rfl⟩
      · have c_11 : i < (gn G) := cNle c_11 (by omega) (by omega)
        refine lv_iload_n hx hb dX3_votesOf_14 rfl (lv_at hl 3 rfl) ?_
        refine lv_aload_n hx hb dX3_votesOf_15 rfl (lv_at hl 0 rfl) ?_
        refine k_get (v := .ref (gL G 9)) X hK inX3 rfl hP (wR_g G r (k := 0) (by decide)) 12 (by decide) tw_2_147 rfl dX3_votesOf_16 ?_
        refine lv_bipush (v := nI 10) hx hb dX3_votesOf_19 (by decide) ?_
        refine lv_iload_n hx hb dX3_votesOf_21 rfl (lv_at hl 2 rfl) ?_
        refine lv_iload hx hb dX3_votesOf_22 (lv_at hl 4 rfl) ?_
        refine k_ci (k_runS (As := [.int (nI b), .int (nI i)]) (rest := [.int (nI 10), .ref (gL G 9), .int (nI (cnt (fun x => mHs r.1 (11 * b + 1 + x) v) i))]) X hK hP (m3_letter l G (AR G) (wR G) r b i) ⟨rfl, rfl⟩ tw_3_10 tw_3_11 tw_1_6 tw_3_12 ⟨by decide +kernel, by decide +kernel, (by decide +kernel : (parseMethodDescriptor yX3_letter.desc).map (fun d => d.parameters.length) = some 2)⟩ ⟨Nat.le_of_ble_eq_true rfl, Nat.le_of_ble_eq_true rfl⟩ hl.1 rfl (Nat.le_of_ble_eq_true rfl) ⟨Nat.zero_le _, Nat.zero_le _⟩ dX3_votesOf_24) hS (fun r_24 u_24 H locs hq_24 hP hS => ?_)
        have hP := k_su hq_24.2 hP
        refine k_ti hq_24.1 ?_
        refine lv_imul hx hb dX3_votesOf_27 ?_
        refine k_ti (pk_mul 10 (11 * b + 1 + i)) ?_
        refine lv_iload_n hx hb dX3_votesOf_28 rfl (lv_at hl 1 rfl) ?_
        refine lv_iadd hx hb dX3_votesOf_29 ?_
        refine k_ti (nI_add (10 * (11 * b + 1 + i)) v) ?_
        refine k_zld (k := 10 * (11 * b + 1 + i) + v) (v := bI (mHs r.1 (11 * b + 1 + i) v)) X hK hP (wR_g G r (k := 9) (by decide)) (by omega) (by decide) (f10_at _ (show v < 10 by omega)) dX3_votesOf_30 ?_
        refine lv_if_eq (tgt := 38) hx hb dX3_votesOf_31 (by decide) (fun c_31 => ?_) (fun c_31 => ?_)
        · have c_31 : (mHs r.1 (11 * b + 1 + i) v) = false := (bI_eq0 _).mp c_31
          refine lv_iconst (v := nI 0) hx hb dX3_votesOf_38 (by decide) ?_
          refine lv_iadd hx hb dX3_votesOf_39 ?_
          refine k_ti (nI_add (cnt (fun x => mHs r.1 (11 * b + 1 + x) v) i) 0) ?_
          refine k_ti (show _ = nI (cnt (fun x => mHs r.1 (11 * b + 1 + x) v) (i + 1)) by rw [cnt, c_31]; rfl) ?_
          refine lv_istore_n (lv' := [(3, .int (nI (cnt (fun x => mHs r.1 (11 * b + 1 + x) v) (i + 1)))), (0, .ref (gL G 0)), (1, .int (nI v)), (2, .int (nI b)), (4, .int (nI i))]) hx hb dX3_votesOf_40 rfl hl (by decide) rfl (fun ls hl => ?_)
          refine lv_iinc (v := nI (i + 1)) (lv' := [(4, .int (nI (i + 1))), (3, .int (nI (cnt (fun x => mHs r.1 (11 * b + 1 + x) v) (i + 1)))), (0, .ref (gL G 0)), (1, .int (nI v)), (2, .int (nI b))]) hx hb dX3_votesOf_41 hl (k := 4) rfl (nI_add i 1) (by decide) rfl (fun ls hl => ?_)
          refine lv_goto (tgt := 5) hx hb dX3_votesOf_44 (by decide) ?_
          exact ih_5 (gn G - (i + 1)) (by omega) (i + 1) rfl (by omega) _ _ _ hP hS (lv_sub hl [2, 3, 4, 1, 0] rfl)
        · have c_31 : (mHs r.1 (11 * b + 1 + i) v) = true := (bI_ne0 _).mp c_31
          refine lv_iconst (v := nI 1) hx hb dX3_votesOf_34 (by decide) ?_
          refine lv_goto (tgt := 39) hx hb dX3_votesOf_35 (by decide) ?_
          refine lv_iadd hx hb dX3_votesOf_39 ?_
          refine k_ti (nI_add (cnt (fun x => mHs r.1 (11 * b + 1 + x) v) i) 1) ?_
          refine k_ti (show _ = nI (cnt (fun x => mHs r.1 (11 * b + 1 + x) v) (i + 1)) by rw [cnt, c_31]; rfl) ?_
          refine lv_istore_n (lv' := [(3, .int (nI (cnt (fun x => mHs r.1 (11 * b + 1 + x) v) (i + 1)))), (0, .ref (gL G 0)), (1, .int (nI v)), (2, .int (nI b)), (4, .int (nI i))]) hx hb dX3_votesOf_40 rfl hl (by decide) rfl (fun ls hl => ?_)
          refine lv_iinc (v := nI (i + 1)) (lv' := [(4, .int (nI (i + 1))), (3, .int (nI (cnt (fun x => mHs r.1 (11 * b + 1 + x) v) (i + 1)))), (0, .ref (gL G 0)), (1, .int (nI v)), (2, .int (nI b))]) hx hb dX3_votesOf_41 hl (k := 4) rfl (nI_add i 1) (by decide) rfl (fun ls hl => ?_)
          refine lv_goto (tgt := 5) hx hb dX3_votesOf_44 (by decide) ?_
          exact ih_5 (gn G - (i + 1)) (by omega) (i + 1) rfl (by omega) _ _ _ hP hS (lv_sub hl [2, 3, 4, 1, 0] rfl)
  exact loop_5 _ 0 rfl (Nat.zero_le _) _ _ _ hP hS (lv_sub hl [2, 3, 4, 1, 0] rfl)

set_option maxHeartbeats 4000000 in
set_option maxRecDepth 100000 in
theorem m3_isTo (l : Launch) (G : kG) (r : RS) (hL : layR G) (hk : okR G r) (x : Int32) : KMi l G (AR G) (wR G) yX3_isTo cX3_isTo 2 (Option.some FieldType.boolean) ({ frames := 0, cells := 0, slots := 0, locals := 0 }) [.ref (gL G 0), .int (x)] r (fun z u' => u' = r ∧ ((toOk (gn G) x ∧ z = 1) ∨ (¬ toOk (gn G) x ∧ z = 0))) := by
  refine K_of (by decide) (Nat.le_of_ble_eq_true rfl) ?_
  intro p e s m below meth c X hr hlocks hnm hK hP ls hl
  have hx := X.1
  have hb := X.2.1
  have hown := X.2.2.2.1
  have hts := X.2.2.2.2
  have hS : va_S (AR G) s.heap s.heap [] := va_S.rf
  have hl : lv_has ls 2 [(0, .ref (gL G 0)), (1, .int (x))] := hl
  obtain ⟨⟨kn4, kn10⟩, ⟨kT1, kT61⟩, kP40, kLd, kPar, kEp, kHt, kVf⟩ := id hk
  refine lv_iload_n hx hb dX3_isTo_0 rfl (lv_at hl 1 rfl) ?_
  refine lv_if_lt (tgt := 17) hx hb dX3_isTo_1 (by decide) (fun c_1 => ?_) (fun c_1 => ?_)
  · have hz : ¬ toOk (gn G) x := fun h => by
      rw [Int32.lt_iff_toInt_lt] at c_1
      have e : (0 : Int32).toInt = 0 := rfl
      rw [e] at c_1
      exact absurd h.1 (by omega)
    refine lv_iconst (v := nI 0) hx hb dX3_isTo_17 (by decide) ?_
    exact k_retz X hr hlocks hP hS dX3_isTo_18 rfl ⟨rfl, Or.inr ⟨hz, rfl⟩⟩
  · refine lv_iload_n hx hb dX3_isTo_4 rfl (lv_at hl 1 rfl) ?_
    refine lv_aload_n hx hb dX3_isTo_5 rfl (lv_at hl 0 rfl) ?_
    refine k_get (v := .int (nI (gn G))) X hK inX3 rfl hP (wR_g G r (k := 0) (by decide)) 1 (by decide) tw_2_136 rfl dX3_isTo_6 ?_
    refine lv_ishr hx hb dX3_isTo_9 ?_
    refine lv_if_ne (tgt := 17) hx hb dX3_isTo_10 (by decide) (fun c_10 => ?_) (fun c_10 => ?_)
    · have hz : ¬ toOk (gn G) x := fun h => c_10 ((toOk_shr x kn10 c_1).mpr h)
      refine lv_iconst (v := nI 0) hx hb dX3_isTo_17 (by decide) ?_
      exact k_retz X hr hlocks hP hS dX3_isTo_18 rfl ⟨rfl, Or.inr ⟨hz, rfl⟩⟩
    · have hz : toOk (gn G) x := (toOk_shr x kn10 c_1).mp c_10
      refine lv_iconst (v := nI 1) hx hb dX3_isTo_13 (by decide) ?_
      refine lv_goto (tgt := 18) hx hb dX3_isTo_14 (by decide) ?_
      exact k_retz X hr hlocks hP hS dX3_isTo_18 rfl ⟨rfl, Or.inl ⟨hz, rfl⟩⟩

set_option maxHeartbeats 4000000 in
set_option maxRecDepth 100000 in
theorem m3_newBlock (l : Launch) (G : kG) (r : RS) (hL : layR G) (hk : okR G r) {o e0 v : Nat} (ho : o < mT r.1) (hT : mT r.1 ≤ 60) (w : Int32) : KMi l G (AR G) (wR G) yX3_newBlock cX3_newBlock 6 (Option.some FieldType.int) ({ frames := 0, cells := 0, slots := 0, locals := 0 }) [.ref (gL G 0), .int (nI o), .int (nI e0), .int (w), .int (nI v)] r (fun z u' => z = nI (mT r.1) ∧ u' = (mMake r.1 o e0 w v, r.2)) := by
  refine K_of (by decide) (Nat.le_of_ble_eq_true rfl) ?_
  intro p e s m below meth c X hr hlocks hnm hK hP ls hl
  have hx := X.1
  have hb := X.2.1
  have hown := X.2.2.2.1
  have hts := X.2.2.2.2
  have hS : va_S (AR G) s.heap s.heap [] := va_S.rf
  have hl : lv_has ls 6 [(0, .ref (gL G 0)), (1, .int (nI o)), (2, .int (nI e0)), (3, .int (w)), (4, .int (nI v))] := hl
  obtain ⟨⟨kn4, kn10⟩, ⟨kT1, kT61⟩, kP40, kLd, kPar, kEp, kHt, kVf⟩ := id hk
  refine lv_aload_n hx hb dX3_newBlock_0 rfl (lv_at hl 0 rfl) ?_
  refine k_get (v := .int (nI (mT r.1))) X hK inX3 rfl hP (wR_g G r (k := 0) (by decide)) 6 (by decide) tw_2_141 rfl dX3_newBlock_1 ?_
  refine lv_istore (lv' := [(5, .int (nI (mT r.1))), (0, .ref (gL G 0)), (1, .int (nI o)), (2, .int (nI e0)), (3, .int (w)), (4, .int (nI v))]) hx hb dX3_newBlock_4 hl (by decide) rfl (fun ls hl => ?_)
  refine lv_aload_n hx hb dX3_newBlock_6 rfl (lv_at hl 1 rfl) ?_
  refine lv_dup hx hb dX3_newBlock_7 rfl ?_
  refine k_get (v := .int (nI (mT r.1))) X hK inX3 rfl hP (wR_g G r (k := 0) (by decide)) 6 (by decide) tw_2_141 rfl dX3_newBlock_8 ?_
  refine lv_iconst (v := nI 1) hx hb dX3_newBlock_11 (by decide) ?_
  refine lv_iadd hx hb dX3_newBlock_12 ?_
  refine k_ti (nI_add (mT r.1) 1) ?_
  refine k_put (v := .int (nI ((mT r.1) + 1))) X hK inX3 rfl tyX3_ok nmX3 hP (wR_D hL _) hS (wR_g G r (k := 0) (by decide)) 6 (by decide) tw_2_141 rfl rfl rfl (Nat.le_of_ble_eq_true rfl) ((sT r.1 ((mT r.1) + 1), r.2)) (rs_T G r ((mT r.1) + 1)) dX3_newBlock_13 (fun H locs hP hS => ?_)
  refine lv_aload_n hx hb dX3_newBlock_16 rfl (lv_at hl 1 rfl) ?_
  refine k_get (v := .ref (gL G 4)) X hK inX3 rfl hP (wR_g G ((sT r.1 ((mT r.1) + 1), r.2)) (k := 0) (by decide)) 7 (by decide) tw_2_142 rfl dX3_newBlock_17 ?_
  refine lv_iload hx hb dX3_newBlock_20 (lv_at hl 0 rfl) ?_
  refine lv_iload_n hx hb dX3_newBlock_22 rfl (lv_at hl 2 rfl) ?_
  refine k_ist (k := (mT r.1)) (x := nI o) X hK hP (wR_D hL _) hS (wR_g G ((sT r.1 ((mT r.1) + 1), r.2)) (k := 4) (by decide)) (by omega) (by decide) ((sPar (sT r.1 ((mT r.1) + 1)) (va_up (mPar r.1) (mT r.1) o), r.2)) (rs_Par G ((sT r.1 ((mT r.1) + 1), r.2)) (k := (mT r.1)) (by omega) o) dX3_newBlock_23 (fun H locs hP hS => ?_)
  refine lv_aload_n hx hb dX3_newBlock_24 rfl (lv_at hl 1 rfl) ?_
  refine k_get (v := .ref (gL G 5)) X hK inX3 rfl hP (wR_g G ((sPar (sT r.1 ((mT r.1) + 1)) (va_up (mPar r.1) (mT r.1) o), r.2)) (k := 0) (by decide)) 8 (by decide) tw_2_143 rfl dX3_newBlock_25 ?_
  refine lv_iload hx hb dX3_newBlock_28 (lv_at hl 0 rfl) ?_
  refine lv_iload_n hx hb dX3_newBlock_30 rfl (lv_at hl 3 rfl) ?_
  refine k_ist (k := (mT r.1)) (x := nI e0) X hK hP (wR_D hL _) hS (wR_g G ((sPar (sT r.1 ((mT r.1) + 1)) (va_up (mPar r.1) (mT r.1) o), r.2)) (k := 5) (by decide)) (by omega) (by decide) ((sEp (sPar (sT r.1 ((mT r.1) + 1)) (va_up (mPar r.1) (mT r.1) o)) (va_up (mEp r.1) (mT r.1) e0), r.2)) (rs_Ep G ((sPar (sT r.1 ((mT r.1) + 1)) (va_up (mPar r.1) (mT r.1) o), r.2)) (mT r.1) e0) dX3_newBlock_31 (fun H locs hP hS => ?_)
  refine lv_aload_n hx hb dX3_newBlock_32 rfl (lv_at hl 1 rfl) ?_
  refine k_get (v := .ref (gL G 6)) X hK inX3 rfl hP (wR_g G ((sEp (sPar (sT r.1 ((mT r.1) + 1)) (va_up (mPar r.1) (mT r.1) o)) (va_up (mEp r.1) (mT r.1) e0), r.2)) (k := 0) (by decide)) 9 (by decide) tw_2_144 rfl dX3_newBlock_33 ?_
  refine lv_iload hx hb dX3_newBlock_36 (lv_at hl 0 rfl) ?_
  refine lv_iload_n hx hb dX3_newBlock_38 rfl (lv_at hl 4 rfl) ?_
  refine k_ist (k := (mT r.1)) (x := w) X hK hP (wR_D hL _) hS (wR_g G ((sEp (sPar (sT r.1 ((mT r.1) + 1)) (va_up (mPar r.1) (mT r.1) o)) (va_up (mEp r.1) (mT r.1) e0), r.2)) (k := 6) (by decide)) (by omega) (by decide) ((sLo (sEp (sPar (sT r.1 ((mT r.1) + 1)) (va_up (mPar r.1) (mT r.1) o)) (va_up (mEp r.1) (mT r.1) e0)) (va_up (mLo r.1) (mT r.1) w), r.2)) (rs_Lo G ((sEp (sPar (sT r.1 ((mT r.1) + 1)) (va_up (mPar r.1) (mT r.1) o)) (va_up (mEp r.1) (mT r.1) e0), r.2)) (mT r.1) w) dX3_newBlock_39 (fun H locs hP hS => ?_)
  refine lv_aload_n hx hb dX3_newBlock_40 rfl (lv_at hl 1 rfl) ?_
  refine k_get (v := .ref (gL G 7)) X hK inX3 rfl hP (wR_g G ((sLo (sEp (sPar (sT r.1 ((mT r.1) + 1)) (va_up (mPar r.1) (mT r.1) o)) (va_up (mEp r.1) (mT r.1) e0)) (va_up (mLo r.1) (mT r.1) w), r.2)) (k := 0) (by decide)) 10 (by decide) tw_2_145 rfl dX3_newBlock_41 ?_
  refine lv_iload hx hb dX3_newBlock_44 (lv_at hl 0 rfl) ?_
  refine lv_aload_n hx hb dX3_newBlock_46 rfl (lv_at hl 1 rfl) ?_
  refine k_get (v := .ref (gL G 7)) X hK inX3 rfl hP (wR_g G ((sLo (sEp (sPar (sT r.1 ((mT r.1) + 1)) (va_up (mPar r.1) (mT r.1) o)) (va_up (mEp r.1) (mT r.1) e0)) (va_up (mLo r.1) (mT r.1) w), r.2)) (k := 0) (by decide)) 10 (by decide) tw_2_145 rfl dX3_newBlock_47 ?_
  refine lv_iload_n hx hb dX3_newBlock_50 rfl (lv_at hl 2 rfl) ?_
  refine k_ild (k := o) (v := nI (mHt r.1 o)) X hK hP (wR_g G ((sLo (sEp (sPar (sT r.1 ((mT r.1) + 1)) (va_up (mPar r.1) (mT r.1) o)) (va_up (mEp r.1) (mT r.1) e0)) (va_up (mLo r.1) (mT r.1) w), r.2)) (k := 7) (by decide)) (by omega) (by decide) rfl dX3_newBlock_51 ?_
  refine lv_iconst (v := nI 1) hx hb dX3_newBlock_52 (by decide) ?_
  refine lv_iadd hx hb dX3_newBlock_53 ?_
  refine k_ti (nI_add (mHt r.1 o) 1) ?_
  refine k_ist (k := (mT r.1)) (x := nI ((mHt r.1 o) + 1)) X hK hP (wR_D hL _) hS (wR_g G ((sLo (sEp (sPar (sT r.1 ((mT r.1) + 1)) (va_up (mPar r.1) (mT r.1) o)) (va_up (mEp r.1) (mT r.1) e0)) (va_up (mLo r.1) (mT r.1) w), r.2)) (k := 7) (by decide)) (by omega) (by decide) ((sHt (sLo (sEp (sPar (sT r.1 ((mT r.1) + 1)) (va_up (mPar r.1) (mT r.1) o)) (va_up (mEp r.1) (mT r.1) e0)) (va_up (mLo r.1) (mT r.1) w)) (va_up (mHt r.1) (mT r.1) ((mHt r.1 o) + 1)), r.2)) (rs_Ht G ((sLo (sEp (sPar (sT r.1 ((mT r.1) + 1)) (va_up (mPar r.1) (mT r.1) o)) (va_up (mEp r.1) (mT r.1) e0)) (va_up (mLo r.1) (mT r.1) w), r.2)) (mT r.1) ((mHt r.1 o) + 1)) dX3_newBlock_54 (fun H locs hP hS => ?_)
  refine lv_aload_n hx hb dX3_newBlock_55 rfl (lv_at hl 1 rfl) ?_
  refine k_get (v := .ref (gL G 8)) X hK inX3 rfl hP (wR_g G ((sHt (sLo (sEp (sPar (sT r.1 ((mT r.1) + 1)) (va_up (mPar r.1) (mT r.1) o)) (va_up (mEp r.1) (mT r.1) e0)) (va_up (mLo r.1) (mT r.1) w)) (va_up (mHt r.1) (mT r.1) ((mHt r.1 o) + 1)), r.2)) (k := 0) (by decide)) 11 (by decide) tw_2_146 rfl dX3_newBlock_56 ?_
  refine lv_iload hx hb dX3_newBlock_59 (lv_at hl 0 rfl) ?_
  refine lv_iload hx hb dX3_newBlock_61 (lv_at hl 5 rfl) ?_
  refine k_ist (k := (mT r.1)) (x := nI v) X hK hP (wR_D hL _) hS (wR_g G ((sHt (sLo (sEp (sPar (sT r.1 ((mT r.1) + 1)) (va_up (mPar r.1) (mT r.1) o)) (va_up (mEp r.1) (mT r.1) e0)) (va_up (mLo r.1) (mT r.1) w)) (va_up (mHt r.1) (mT r.1) ((mHt r.1 o) + 1)), r.2)) (k := 8) (by decide)) (by omega) (by decide) ((sMk (sHt (sLo (sEp (sPar (sT r.1 ((mT r.1) + 1)) (va_up (mPar r.1) (mT r.1) o)) (va_up (mEp r.1) (mT r.1) e0)) (va_up (mLo r.1) (mT r.1) w)) (va_up (mHt r.1) (mT r.1) ((mHt r.1 o) + 1))) (va_up (mMk r.1) (mT r.1) v), r.2)) (rs_Mk G ((sHt (sLo (sEp (sPar (sT r.1 ((mT r.1) + 1)) (va_up (mPar r.1) (mT r.1) o)) (va_up (mEp r.1) (mT r.1) e0)) (va_up (mLo r.1) (mT r.1) w)) (va_up (mHt r.1) (mT r.1) ((mHt r.1 o) + 1)), r.2)) (k := (mT r.1)) (by omega) v) dX3_newBlock_63 (fun H locs hP hS => ?_)
  refine lv_iload hx hb dX3_newBlock_64 (lv_at hl 0 rfl) ?_
  exact k_reti X hr hlocks hP hS dX3_newBlock_66 ⟨rfl, rfl⟩
